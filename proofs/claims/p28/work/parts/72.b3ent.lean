def f_L_entries_b255 (q0 : Nat) (s0 : Int32) (μ : Mem) : Option Int32 := (zr s0).bind (fun v2 => (some v2))
def f_L_entries_b254 (q0 : Nat)  (μ : Mem) : Option Int32 := f_L_entries_b255 q0 0 μ
def f_L_entries_b215 (q0 : Nat) (k9 : Int32 → Int32 → Int32 → Int32 → Mem → Option Int32) (x1 : Int32) (x2 : Int32) (x3 : Int32) (x4 : Int32) (μ : Mem) : Option Int32 := k9 x1 x2 x3 (x4 + 1) μ
def f_L_entries_b205 (q0 : Nat)  (μ : Mem) : Option Int32 := (some 0)
def f_L_entries_b207 (q0 : Nat) (k9 : Int32 → Int32 → Int32 → Int32 → Mem → Option Int32) (x1 : Int32) (x2 : Int32) (x3 : Int32) (x4 : Int32) (x5 : Int32) (μ : Mem) : Option Int32 := f_L_entries_b215 q0 k9 (x1 + 1) (x2 + x5) x3 x4 μ
def f_L_entries_b170 (q0 : Nat) (k9 : Int32 → Int32 → Int32 → Int32 → Mem → Option Int32) (x1 : Int32) (x2 : Int32) (x3 : Int32) (x4 : Int32) (x5 : Int32) (x7 : Int32) (μ : Mem) : Option Int32 := (if x7 = 0 then (if x1 ≤ 0 then f_L_entries_b207 q0 k9 x1 x2 x3 x4 x5 μ else (f_X6_entry q0 (x1 - 1) 3 μ).bind (fun v14 => (f_X6_entry q0 (x1 - 1) 2 μ).bind (fun v15 => (f_X6_bed q0 v15 2 μ).bind (fun v16 => (if (v14 + 1) = v16 then f_L_entries_b207 q0 k9 x1 x2 x3 x4 x5 μ else f_L_entries_b205 q0 μ))))) else f_L_entries_b207 q0 k9 x1 x2 x3 x4 x5 μ)
def f_L_entries_b59 (q0 : Nat) (k9 : Int32 → Int32 → Int32 → Int32 → Mem → Option Int32) (x1 : Int32) (x2 : Int32) (x4 : Int32) (x5 : Int32) (x6 : Int32) (x7 : Int32) (s0 : Int32) (s1 : Int32) (μ : Mem) : Option Int32 := (f_X6_entry q0 x1 0 μ).bind (fun v8 => (if v8 = x4 then (f_X6_entry q0 x1 1 μ).bind (fun v9 => (if v9 = x5 then (if x7 < 0 then f_L_entries_b205 q0 μ else (if 3 < x7 then f_L_entries_b205 q0 μ else (f_X6_bed q0 x6 2 μ).bind (fun v10 => (if v10 ≤ x7 then f_L_entries_b205 q0 μ else (f_X6_bed q0 x6 0 μ).bind (fun v11 => (if v11 = 1 then (f_X6_bed q0 x6 1 μ).bind (fun v12 => (if v12 = 0 then (f_X6_bed q0 x6 5 μ).bind (fun v13 => (if v13 = 0 then (if x7 ≤ 0 then f_L_entries_b170 q0 k9 x1 x2 (s1 + s0) x4 x5 x7 μ else (f_X6_entry q0 (x1 - 1) 2 μ).bind (fun v17 => (if x6 = v17 then (f_X6_entry q0 (x1 - 1) 3 μ).bind (fun v18 => (if x7 = (v18 + 1) then f_L_entries_b170 q0 k9 x1 x2 (s1 + s0) x4 x5 x7 μ else f_L_entries_b205 q0 μ)) else f_L_entries_b205 q0 μ))) else f_L_entries_b205 q0 μ)) else f_L_entries_b205 q0 μ)) else f_L_entries_b205 q0 μ)))))) else f_L_entries_b205 q0 μ)) else f_L_entries_b205 q0 μ))
def f_L_entries_b9 (q0 : Nat)  : Nat → Int32 → Int32 → Int32 → Int32 → Mem → Option Int32
  | 0, _, _, _, _, _ => none
  | fuel9 + 1, x1, x2, x3, x4, μ => (if 100 ≤ x4 then (f_X6_whole q0 5 μ).bind (fun v1 => (if v1 = x1 then (f_X6_whole q0 13 μ).bind (fun v3 => (if v3 = x2 then (f_X6_whole q0 6 μ).bind (fun v4 => (if v4 = x3 then f_L_entries_b255 q0 1 μ else f_L_entries_b254 q0 μ)) else f_L_entries_b254 q0 μ)) else f_L_entries_b254 q0 μ)) else (f_X6_get q0 x4 μ).bind (fun v5 => (if v5 = (-1000) then f_L_entries_b215 q0 (f_L_entries_b9 q0 fuel9) x1 x2 x3 x4 μ else (f_X6_entry q0 x1 2 μ).bind (fun v6 => (f_X6_entry q0 x1 3 μ).bind (fun v7 => (if v7 = 0 then f_L_entries_b59 q0 (f_L_entries_b9 q0 fuel9) x1 x2 x4 v5 v6 v7 1 x3 μ else f_L_entries_b59 q0 (f_L_entries_b9 q0 fuel9) x1 x2 x4 v5 v6 v7 0 x3 μ))))))
def f_L_entries (q0 : Nat) (μ : Mem) : Option Int32 := f_L_entries_b9 q0 101 0 0 0 0 μ
set_option maxHeartbeats 4000000 in
set_option maxRecDepth 100000 in
theorem c_L_entries (l : Launch) {D : va_G} {cI cG cL : ClassId} {A : Nat → Prop} {tC tS : Nat} {adE adK adV : Nat → Nat} (hE : EnOK (ENV tC tS adE adK adV A) A) (hst : l.stackTraces = false) {w : Mem → va_W} {ad : Nat → Nat} {q0 : Nat} {μ : Mem} {r : Int32} (hw0 : PGAt cI cG adE w ad q0) (h : f_L_entries q0 μ = some r) : Met l yL_entries wsL_entries (rmc 5 0 0 117) (WPre D (tyl cI cG cL) A (ENV tC tS adE adK adV A) (w μ) [.ref (ad q0)]) (PI D A (w μ) r) 0 0 A := by
  refine met_startM (cc := cL_entries) (nL := 8) (ret := (some .boolean)) (own := RL) hE (by decide) rfl rfl (Nat.le_of_ble_eq_true rfl) (fun p e s m args below meth c ls X hS hl hr hlk => ?_)
  have hx := X.1.1
  have hb := X.1.2.1
  replace hl : lv_has ls 8 [(0, .ref (ad q0))] := hl
  have hb255 : ∀ (s0 : Int32) (cells slots : Nat), cells + 0 ≤ 0 → slots + 0 ≤ 0 → ∀ (H : Heap) (locs : List Loc) (ls : Array Slot), HS D A (w μ) s.heap H locs → lv_has ls 8 [] → f_L_entries_b255 q0 s0 μ = some r → W p l e (headSpec wsL_entries (rmc 5 0 0 117)).room s m args below meth c H locs cells slots (MQ below (PI D A (w μ) r) args s 0 0 A) (F0 m 255 ls [.int s0]) := by
    intro s0 cells slots hc hs H locs ls hS hl h
    unfold f_L_entries_b255 at h
    obtain ⟨v2, ev2, h⟩ := ob h
    obtain ⟨ezv2, eov2⟩ := zr_ok ev2
    rw [ezv2]
    cases h
    exact r_zretM X hS hr hlk eov2 (by omega) (by omega) dL_entries_255
  have hb254 : ∀  (cells slots : Nat), cells + 0 ≤ 0 → slots + 0 ≤ 0 → ∀ (H : Heap) (locs : List Loc) (ls : Array Slot), HS D A (w μ) s.heap H locs → lv_has ls 8 [] → f_L_entries_b254 q0 μ = some r → W p l e (headSpec wsL_entries (rmc 5 0 0 117)).room s m args below meth c H locs cells slots (MQ below (PI D A (w μ) r) args s 0 0 A) (F0 m 254 ls []) := by
    intro cells slots hc hs H locs ls hS hl h
    unfold f_L_entries_b254 at h
    refine lv_iconst (v := 0) hx hb dL_entries_254 (by decide) ?_
    exact hb255 0 _ _ (by omega) (by omega) _ _ _ hS (lv_sub hl [] rfl) h
  have hb215 : ∀ (k9 : Int32 → Int32 → Int32 → Int32 → Mem → Option Int32) (G9 GS9 : Nat), 0 ≤ G9 → 0 ≤ GS9 → (∀ (x1 : Int32) (x2 : Int32) (x3 : Int32) (x4 : Int32) (cells slots : Nat), cells + G9 ≤ 0 → slots + GS9 ≤ 0 → ∀ (H : Heap) (locs : List Loc) (ls : Array Slot), HS D A (w μ) s.heap H locs → lv_has ls 8 [(0, .ref (ad q0)), (1, .int x1), (2, .int x2), (3, .int x3), (4, .int x4)] → k9 x1 x2 x3 x4 μ = some r → W p l e (headSpec wsL_entries (rmc 5 0 0 117)).room s m args below meth c H locs cells slots (MQ below (PI D A (w μ) r) args s 0 0 A) (F0 m 9 ls [])) → ∀ (x1 : Int32) (x2 : Int32) (x3 : Int32) (x4 : Int32) (cells slots : Nat), cells + 0 + G9 ≤ 0 → slots + 0 + GS9 ≤ 0 → ∀ (H : Heap) (locs : List Loc) (ls : Array Slot), HS D A (w μ) s.heap H locs → lv_has ls 8 [(0, .ref (ad q0)), (1, .int x1), (2, .int x2), (3, .int x3), (4, .int x4)] → f_L_entries_b215 q0 k9 x1 x2 x3 x4 μ = some r → W p l e (headSpec wsL_entries (rmc 5 0 0 117)).room s m args below meth c H locs cells slots (MQ below (PI D A (w μ) r) args s 0 0 A) (F0 m 215 ls []) := by
    intro k9 G9 GS9 hG9 hGS9 hk9 x1 x2 x3 x4 cells slots hc hs H locs ls hS hl h
    unfold f_L_entries_b215 at h
    refine lv_iinc (v := x4 + 1) (lv' := [(4, .int (x4 + 1)), (0, .ref (ad q0)), (1, .int x1), (2, .int x2), (3, .int x3)]) hx hb dL_entries_215 hl (k := 4) rfl rfl (by decide) rfl (fun ls hl => ?_)
    refine lv_goto (tgt := 9) hx hb dL_entries_218 (by decide) ?_
    exact hk9 x1 x2 x3 (x4 + 1) _ _ (by omega) (by omega) _ _ _ hS (lv_sub hl [1, 2, 3, 4, 0] rfl) h
  have hb205 : ∀  (cells slots : Nat), cells + 0 ≤ 0 → slots + 0 ≤ 0 → ∀ (H : Heap) (locs : List Loc) (ls : Array Slot), HS D A (w μ) s.heap H locs → lv_has ls 8 [] → f_L_entries_b205 q0 μ = some r → W p l e (headSpec wsL_entries (rmc 5 0 0 117)).room s m args below meth c H locs cells slots (MQ below (PI D A (w μ) r) args s 0 0 A) (F0 m 205 ls []) := by
    intro cells slots hc hs H locs ls hS hl h
    unfold f_L_entries_b205 at h
    refine lv_iconst (v := 0) hx hb dL_entries_205 (by decide) ?_
    cases h
    exact r_zretM X hS hr hlk (by decide) (by omega) (by omega) dL_entries_206
  have hb207 : ∀ (k9 : Int32 → Int32 → Int32 → Int32 → Mem → Option Int32) (G9 GS9 : Nat), 0 ≤ G9 → 0 ≤ GS9 → (∀ (x1 : Int32) (x2 : Int32) (x3 : Int32) (x4 : Int32) (cells slots : Nat), cells + G9 ≤ 0 → slots + GS9 ≤ 0 → ∀ (H : Heap) (locs : List Loc) (ls : Array Slot), HS D A (w μ) s.heap H locs → lv_has ls 8 [(0, .ref (ad q0)), (1, .int x1), (2, .int x2), (3, .int x3), (4, .int x4)] → k9 x1 x2 x3 x4 μ = some r → W p l e (headSpec wsL_entries (rmc 5 0 0 117)).room s m args below meth c H locs cells slots (MQ below (PI D A (w μ) r) args s 0 0 A) (F0 m 9 ls [])) → ∀ (x1 : Int32) (x2 : Int32) (x3 : Int32) (x4 : Int32) (x5 : Int32) (cells slots : Nat), cells + 0 + G9 ≤ 0 → slots + 0 + GS9 ≤ 0 → ∀ (H : Heap) (locs : List Loc) (ls : Array Slot), HS D A (w μ) s.heap H locs → lv_has ls 8 [(0, .ref (ad q0)), (1, .int x1), (2, .int x2), (3, .int x3), (4, .int x4), (5, .int x5)] → f_L_entries_b207 q0 k9 x1 x2 x3 x4 x5 μ = some r → W p l e (headSpec wsL_entries (rmc 5 0 0 117)).room s m args below meth c H locs cells slots (MQ below (PI D A (w μ) r) args s 0 0 A) (F0 m 207 ls []) := by
    intro k9 G9 GS9 hG9 hGS9 hk9 x1 x2 x3 x4 x5 cells slots hc hs H locs ls hS hl h
    unfold f_L_entries_b207 at h
    refine lv_iinc (v := x1 + 1) (lv' := [(1, .int (x1 + 1)), (0, .ref (ad q0)), (2, .int x2), (3, .int x3), (4, .int x4), (5, .int x5)]) hx hb dL_entries_207 hl (k := 1) rfl rfl (by decide) rfl (fun ls hl => ?_)
    refine lv_iload_n hx hb dL_entries_210 rfl (lv_at hl 2 rfl) ?_
    refine lv_iload hx hb dL_entries_211 (lv_at hl 5 rfl) ?_
    refine lv_iadd hx hb dL_entries_213 ?_
    refine lv_istore_n (lv' := [(2, .int (x2 + x5)), (1, .int (x1 + 1)), (0, .ref (ad q0)), (3, .int x3), (4, .int x4), (5, .int x5)]) hx hb dL_entries_214 rfl hl (by decide) rfl (fun ls hl => ?_)
    exact hb215 k9 G9 GS9 hG9 hGS9 hk9 (x1 + 1) (x2 + x5) x3 x4 _ _ (by omega) (by omega) _ _ _ hS (lv_sub hl [2, 1, 0, 3, 4] rfl) h
  have hb170 : ∀ (k9 : Int32 → Int32 → Int32 → Int32 → Mem → Option Int32) (G9 GS9 : Nat), 0 ≤ G9 → 0 ≤ GS9 → (∀ (x1 : Int32) (x2 : Int32) (x3 : Int32) (x4 : Int32) (cells slots : Nat), cells + G9 ≤ 0 → slots + GS9 ≤ 0 → ∀ (H : Heap) (locs : List Loc) (ls : Array Slot), HS D A (w μ) s.heap H locs → lv_has ls 8 [(0, .ref (ad q0)), (1, .int x1), (2, .int x2), (3, .int x3), (4, .int x4)] → k9 x1 x2 x3 x4 μ = some r → W p l e (headSpec wsL_entries (rmc 5 0 0 117)).room s m args below meth c H locs cells slots (MQ below (PI D A (w μ) r) args s 0 0 A) (F0 m 9 ls [])) → ∀ (x1 : Int32) (x2 : Int32) (x3 : Int32) (x4 : Int32) (x5 : Int32) (x7 : Int32) (cells slots : Nat), cells + 0 + G9 ≤ 0 → slots + 0 + GS9 ≤ 0 → ∀ (H : Heap) (locs : List Loc) (ls : Array Slot), HS D A (w μ) s.heap H locs → lv_has ls 8 [(0, .ref (ad q0)), (1, .int x1), (2, .int x2), (3, .int x3), (4, .int x4), (5, .int x5), (7, .int x7)] → f_L_entries_b170 q0 k9 x1 x2 x3 x4 x5 x7 μ = some r → W p l e (headSpec wsL_entries (rmc 5 0 0 117)).room s m args below meth c H locs cells slots (MQ below (PI D A (w μ) r) args s 0 0 A) (F0 m 170 ls []) := by
    intro k9 G9 GS9 hG9 hGS9 hk9 x1 x2 x3 x4 x5 x7 cells slots hc hs H locs ls hS hl h
    unfold f_L_entries_b170 at h
    refine lv_iload hx hb dL_entries_170 (lv_at hl 6 rfl) ?_
    refine lv_if_ne (tgt := 207) hx hb dL_entries_172 (by decide) (fun cc => ?_) (fun cc => ?_)
    · replace h := ie h cc
      exact hb207 k9 G9 GS9 hG9 hGS9 hk9 x1 x2 x3 x4 x5 _ _ (by omega) (by omega) _ _ _ hS (lv_sub hl [0, 1, 2, 3, 4, 5] rfl) h
    · replace h := it h cc
      refine lv_iload_n hx hb dL_entries_175 rfl (lv_at hl 1 rfl) ?_
      refine lv_if_le (tgt := 207) hx hb dL_entries_176 (by decide) (fun cc => ?_) (fun cc => ?_)
      · replace h := it h cc
        exact hb207 k9 G9 GS9 hG9 hGS9 hk9 x1 x2 x3 x4 x5 _ _ (by omega) (by omega) _ _ _ hS (lv_sub hl [0, 1, 2, 3, 4, 5] rfl) h
      · replace h := ie h cc
        refine lv_aload_n hx hb dL_entries_179 rfl (lv_at hl 0 rfl) ?_
        refine lv_iload_n hx hb dL_entries_180 rfl (lv_at hl 1 rfl) ?_
        refine lv_iconst (v := 1) hx hb dL_entries_181 (by decide) ?_
        refine lv_isub hx hb dL_entries_182 ?_
        refine lv_iconst (v := 3) hx hb dL_entries_183 (by decide) ?_
        obtain ⟨v14, ev14, h⟩ := ob h
        refine r_ci hS (r_runV (As := [.int (x1 - 1), .int 3]) (rest := []) X hS (c_X6_entry l hE (w := w) (ad := ad) (μ := μ) (D := D) (cI := cI) (cG := cG) (cL := cL) hw0 ev14) (cwV 2 X.1.2.2.2.2 gL_entries_X6_entry rfl rfl rfl (by decide +kernel) ⟨Nat.le_of_ble_eq_true rfl, Nat.le_of_ble_eq_true rfl⟩) (q0 := q0) (ci := 4) rfl (hw0.1 μ).1 rfl hl.1 rfl (Nat.le_of_ble_eq_true rfl) dL_entries_184 ⟨Nat.le_trans (m := 0) (by omega) (Nat.le_of_ble_eq_true rfl), Nat.le_trans (m := 0) (by omega) (Nat.le_of_ble_eq_true rfl)⟩) (fun H locs hS => ?_)
        refine lv_iconst (v := 1) hx hb dL_entries_187 (by decide) ?_
        refine lv_iadd hx hb dL_entries_188 ?_
        refine lv_aload_n hx hb dL_entries_189 rfl (lv_at hl 0 rfl) ?_
        refine lv_aload_n hx hb dL_entries_190 rfl (lv_at hl 0 rfl) ?_
        refine lv_iload_n hx hb dL_entries_191 rfl (lv_at hl 1 rfl) ?_
        refine lv_iconst (v := 1) hx hb dL_entries_192 (by decide) ?_
        refine lv_isub hx hb dL_entries_193 ?_
        refine lv_iconst (v := 2) hx hb dL_entries_194 (by decide) ?_
        obtain ⟨v15, ev15, h⟩ := ob h
        refine r_ci hS (r_runV (As := [.int (x1 - 1), .int 2]) (rest := [.ref (ad q0), .int (v14 + 1)]) X hS (c_X6_entry l hE (w := w) (ad := ad) (μ := μ) (D := D) (cI := cI) (cG := cG) (cL := cL) hw0 ev15) (cwV 2 X.1.2.2.2.2 gL_entries_X6_entry rfl rfl rfl (by decide +kernel) ⟨Nat.le_of_ble_eq_true rfl, Nat.le_of_ble_eq_true rfl⟩) (q0 := q0) (ci := 4) rfl (hw0.1 μ).1 rfl hl.1 rfl (Nat.le_of_ble_eq_true rfl) dL_entries_195 ⟨Nat.le_trans (m := 0) (by omega) (Nat.le_of_ble_eq_true rfl), Nat.le_trans (m := 0) (by omega) (Nat.le_of_ble_eq_true rfl)⟩) (fun H locs hS => ?_)
        refine lv_iconst (v := 2) hx hb dL_entries_198 (by decide) ?_
        obtain ⟨v16, ev16, h⟩ := ob h
        refine r_ci hS (r_runV (As := [.int v15, .int 2]) (rest := [.int (v14 + 1)]) X hS (c_X6_bed l hE (w := w) (ad := ad) (μ := μ) (D := D) (cI := cI) (cG := cG) (cL := cL) hw0 ev16) (cwV 2 X.1.2.2.2.2 gL_entries_X6_bed rfl rfl rfl (by decide +kernel) ⟨Nat.le_of_ble_eq_true rfl, Nat.le_of_ble_eq_true rfl⟩) (q0 := q0) (ci := 4) rfl (hw0.1 μ).1 rfl hl.1 rfl (Nat.le_of_ble_eq_true rfl) dL_entries_199 ⟨Nat.le_trans (m := 0) (by omega) (Nat.le_of_ble_eq_true rfl), Nat.le_trans (m := 0) (by omega) (Nat.le_of_ble_eq_true rfl)⟩) (fun H locs hS => ?_)
        refine lv_icmp_eq (tgt := 207) hx hb dL_entries_202 (by decide) (fun cc => ?_) (fun cc => ?_)
        · replace h := it h cc
          exact hb207 k9 G9 GS9 hG9 hGS9 hk9 x1 x2 x3 x4 x5 _ _ (by omega) (by omega) _ _ _ hS (lv_sub hl [0, 1, 2, 3, 4, 5] rfl) h
        · replace h := ie h cc
          exact hb205  _ _ (by omega) (by omega) _ _ _ hS (lv_sub hl [] rfl) h
  have hb59 : ∀ (k9 : Int32 → Int32 → Int32 → Int32 → Mem → Option Int32) (G9 GS9 : Nat), 0 ≤ G9 → 0 ≤ GS9 → (∀ (x1 : Int32) (x2 : Int32) (x3 : Int32) (x4 : Int32) (cells slots : Nat), cells + G9 ≤ 0 → slots + GS9 ≤ 0 → ∀ (H : Heap) (locs : List Loc) (ls : Array Slot), HS D A (w μ) s.heap H locs → lv_has ls 8 [(0, .ref (ad q0)), (1, .int x1), (2, .int x2), (3, .int x3), (4, .int x4)] → k9 x1 x2 x3 x4 μ = some r → W p l e (headSpec wsL_entries (rmc 5 0 0 117)).room s m args below meth c H locs cells slots (MQ below (PI D A (w μ) r) args s 0 0 A) (F0 m 9 ls [])) → ∀ (x1 : Int32) (x2 : Int32) (x4 : Int32) (x5 : Int32) (x6 : Int32) (x7 : Int32) (s0 : Int32) (s1 : Int32) (cells slots : Nat), cells + 0 + G9 ≤ 0 → slots + 0 + GS9 ≤ 0 → ∀ (H : Heap) (locs : List Loc) (ls : Array Slot), HS D A (w μ) s.heap H locs → lv_has ls 8 [(0, .ref (ad q0)), (1, .int x1), (2, .int x2), (4, .int x4), (5, .int x5), (6, .int x6), (7, .int x7)] → f_L_entries_b59 q0 k9 x1 x2 x4 x5 x6 x7 s0 s1 μ = some r → W p l e (headSpec wsL_entries (rmc 5 0 0 117)).room s m args below meth c H locs cells slots (MQ below (PI D A (w μ) r) args s 0 0 A) (F0 m 59 ls [.int s0, .int s1]) := by
    intro k9 G9 GS9 hG9 hGS9 hk9 x1 x2 x4 x5 x6 x7 s0 s1 cells slots hc hs H locs ls hS hl h
    unfold f_L_entries_b59 at h
    refine lv_iadd hx hb dL_entries_59 ?_
    refine lv_istore_n (lv' := [(3, .int (s1 + s0)), (0, .ref (ad q0)), (1, .int x1), (2, .int x2), (4, .int x4), (5, .int x5), (6, .int x6), (7, .int x7)]) hx hb dL_entries_60 rfl hl (by decide) rfl (fun ls hl => ?_)
    refine lv_aload_n hx hb dL_entries_61 rfl (lv_at hl 1 rfl) ?_
    refine lv_iload_n hx hb dL_entries_62 rfl (lv_at hl 2 rfl) ?_
    refine lv_iconst (v := 0) hx hb dL_entries_63 (by decide) ?_
    obtain ⟨v8, ev8, h⟩ := ob h
    refine r_ci hS (r_runV (As := [.int x1, .int 0]) (rest := []) X hS (c_X6_entry l hE (w := w) (ad := ad) (μ := μ) (D := D) (cI := cI) (cG := cG) (cL := cL) hw0 ev8) (cwV 2 X.1.2.2.2.2 gL_entries_X6_entry rfl rfl rfl (by decide +kernel) ⟨Nat.le_of_ble_eq_true rfl, Nat.le_of_ble_eq_true rfl⟩) (q0 := q0) (ci := 4) rfl (hw0.1 μ).1 rfl hl.1 rfl (Nat.le_of_ble_eq_true rfl) dL_entries_64 ⟨Nat.le_trans (m := 0) (by omega) (Nat.le_of_ble_eq_true rfl), Nat.le_trans (m := 0) (by omega) (Nat.le_of_ble_eq_true rfl)⟩) (fun H locs hS => ?_)
    refine lv_iload hx hb dL_entries_67 (lv_at hl 4 rfl) ?_
    refine lv_icmp_ne (tgt := 205) hx hb dL_entries_69 (by decide) (fun cc => ?_) (fun cc => ?_)
    · replace h := ie h cc
      exact hb205  _ _ (by omega) (by omega) _ _ _ hS (lv_sub hl [] rfl) h
    · replace h := it h cc
      refine lv_aload_n hx hb dL_entries_72 rfl (lv_at hl 1 rfl) ?_
      refine lv_iload_n hx hb dL_entries_73 rfl (lv_at hl 2 rfl) ?_
      refine lv_iconst (v := 1) hx hb dL_entries_74 (by decide) ?_
      obtain ⟨v9, ev9, h⟩ := ob h
      refine r_ci hS (r_runV (As := [.int x1, .int 1]) (rest := []) X hS (c_X6_entry l hE (w := w) (ad := ad) (μ := μ) (D := D) (cI := cI) (cG := cG) (cL := cL) hw0 ev9) (cwV 2 X.1.2.2.2.2 gL_entries_X6_entry rfl rfl rfl (by decide +kernel) ⟨Nat.le_of_ble_eq_true rfl, Nat.le_of_ble_eq_true rfl⟩) (q0 := q0) (ci := 4) rfl (hw0.1 μ).1 rfl hl.1 rfl (Nat.le_of_ble_eq_true rfl) dL_entries_75 ⟨Nat.le_trans (m := 0) (by omega) (Nat.le_of_ble_eq_true rfl), Nat.le_trans (m := 0) (by omega) (Nat.le_of_ble_eq_true rfl)⟩) (fun H locs hS => ?_)
      refine lv_iload hx hb dL_entries_78 (lv_at hl 5 rfl) ?_
      refine lv_icmp_ne (tgt := 205) hx hb dL_entries_80 (by decide) (fun cc => ?_) (fun cc => ?_)
      · replace h := ie h cc
        exact hb205  _ _ (by omega) (by omega) _ _ _ hS (lv_sub hl [] rfl) h
      · replace h := it h cc
        refine lv_iload hx hb dL_entries_83 (lv_at hl 7 rfl) ?_
        refine lv_if_lt (tgt := 205) hx hb dL_entries_85 (by decide) (fun cc => ?_) (fun cc => ?_)
        · replace h := it h cc
          exact hb205  _ _ (by omega) (by omega) _ _ _ hS (lv_sub hl [] rfl) h
        · replace h := ie h cc
          refine lv_iload hx hb dL_entries_88 (lv_at hl 7 rfl) ?_
          refine lv_iconst (v := 3) hx hb dL_entries_90 (by decide) ?_
          refine lv_icmp_gt (tgt := 205) hx hb dL_entries_91 (by decide) (fun cc => ?_) (fun cc => ?_)
          · replace h := it h cc
            exact hb205  _ _ (by omega) (by omega) _ _ _ hS (lv_sub hl [] rfl) h
          · replace h := ie h cc
            refine lv_iload hx hb dL_entries_94 (lv_at hl 7 rfl) ?_
            refine lv_aload_n hx hb dL_entries_96 rfl (lv_at hl 1 rfl) ?_
            refine lv_iload hx hb dL_entries_97 (lv_at hl 6 rfl) ?_
            refine lv_iconst (v := 2) hx hb dL_entries_99 (by decide) ?_
            obtain ⟨v10, ev10, h⟩ := ob h
            refine r_ci hS (r_runV (As := [.int x6, .int 2]) (rest := [.int x7]) X hS (c_X6_bed l hE (w := w) (ad := ad) (μ := μ) (D := D) (cI := cI) (cG := cG) (cL := cL) hw0 ev10) (cwV 2 X.1.2.2.2.2 gL_entries_X6_bed rfl rfl rfl (by decide +kernel) ⟨Nat.le_of_ble_eq_true rfl, Nat.le_of_ble_eq_true rfl⟩) (q0 := q0) (ci := 4) rfl (hw0.1 μ).1 rfl hl.1 rfl (Nat.le_of_ble_eq_true rfl) dL_entries_100 ⟨Nat.le_trans (m := 0) (by omega) (Nat.le_of_ble_eq_true rfl), Nat.le_trans (m := 0) (by omega) (Nat.le_of_ble_eq_true rfl)⟩) (fun H locs hS => ?_)
            refine lv_icmp_ge (tgt := 205) hx hb dL_entries_103 (by decide) (fun cc => ?_) (fun cc => ?_)
            · replace h := it h cc
              exact hb205  _ _ (by omega) (by omega) _ _ _ hS (lv_sub hl [] rfl) h
            · replace h := ie h cc
              refine lv_aload_n hx hb dL_entries_106 rfl (lv_at hl 1 rfl) ?_
              refine lv_iload hx hb dL_entries_107 (lv_at hl 6 rfl) ?_
              refine lv_iconst (v := 0) hx hb dL_entries_109 (by decide) ?_
              obtain ⟨v11, ev11, h⟩ := ob h
              refine r_ci hS (r_runV (As := [.int x6, .int 0]) (rest := []) X hS (c_X6_bed l hE (w := w) (ad := ad) (μ := μ) (D := D) (cI := cI) (cG := cG) (cL := cL) hw0 ev11) (cwV 2 X.1.2.2.2.2 gL_entries_X6_bed rfl rfl rfl (by decide +kernel) ⟨Nat.le_of_ble_eq_true rfl, Nat.le_of_ble_eq_true rfl⟩) (q0 := q0) (ci := 4) rfl (hw0.1 μ).1 rfl hl.1 rfl (Nat.le_of_ble_eq_true rfl) dL_entries_110 ⟨Nat.le_trans (m := 0) (by omega) (Nat.le_of_ble_eq_true rfl), Nat.le_trans (m := 0) (by omega) (Nat.le_of_ble_eq_true rfl)⟩) (fun H locs hS => ?_)
              refine lv_iconst (v := 1) hx hb dL_entries_113 (by decide) ?_
              refine lv_icmp_ne (tgt := 205) hx hb dL_entries_114 (by decide) (fun cc => ?_) (fun cc => ?_)
              · replace h := ie h cc
                exact hb205  _ _ (by omega) (by omega) _ _ _ hS (lv_sub hl [] rfl) h
              · replace h := it h cc
                refine lv_aload_n hx hb dL_entries_117 rfl (lv_at hl 1 rfl) ?_
                refine lv_iload hx hb dL_entries_118 (lv_at hl 6 rfl) ?_
                refine lv_iconst (v := 1) hx hb dL_entries_120 (by decide) ?_
                obtain ⟨v12, ev12, h⟩ := ob h
                refine r_ci hS (r_runV (As := [.int x6, .int 1]) (rest := []) X hS (c_X6_bed l hE (w := w) (ad := ad) (μ := μ) (D := D) (cI := cI) (cG := cG) (cL := cL) hw0 ev12) (cwV 2 X.1.2.2.2.2 gL_entries_X6_bed rfl rfl rfl (by decide +kernel) ⟨Nat.le_of_ble_eq_true rfl, Nat.le_of_ble_eq_true rfl⟩) (q0 := q0) (ci := 4) rfl (hw0.1 μ).1 rfl hl.1 rfl (Nat.le_of_ble_eq_true rfl) dL_entries_121 ⟨Nat.le_trans (m := 0) (by omega) (Nat.le_of_ble_eq_true rfl), Nat.le_trans (m := 0) (by omega) (Nat.le_of_ble_eq_true rfl)⟩) (fun H locs hS => ?_)
                refine lv_if_ne (tgt := 205) hx hb dL_entries_124 (by decide) (fun cc => ?_) (fun cc => ?_)
                · replace h := ie h cc
                  exact hb205  _ _ (by omega) (by omega) _ _ _ hS (lv_sub hl [] rfl) h
                · replace h := it h cc
                  refine lv_aload_n hx hb dL_entries_127 rfl (lv_at hl 1 rfl) ?_
                  refine lv_iload hx hb dL_entries_128 (lv_at hl 6 rfl) ?_
                  refine lv_iconst (v := 5) hx hb dL_entries_130 (by decide) ?_
                  obtain ⟨v13, ev13, h⟩ := ob h
                  refine r_ci hS (r_runV (As := [.int x6, .int 5]) (rest := []) X hS (c_X6_bed l hE (w := w) (ad := ad) (μ := μ) (D := D) (cI := cI) (cG := cG) (cL := cL) hw0 ev13) (cwV 2 X.1.2.2.2.2 gL_entries_X6_bed rfl rfl rfl (by decide +kernel) ⟨Nat.le_of_ble_eq_true rfl, Nat.le_of_ble_eq_true rfl⟩) (q0 := q0) (ci := 4) rfl (hw0.1 μ).1 rfl hl.1 rfl (Nat.le_of_ble_eq_true rfl) dL_entries_131 ⟨Nat.le_trans (m := 0) (by omega) (Nat.le_of_ble_eq_true rfl), Nat.le_trans (m := 0) (by omega) (Nat.le_of_ble_eq_true rfl)⟩) (fun H locs hS => ?_)
                  refine lv_if_ne (tgt := 205) hx hb dL_entries_134 (by decide) (fun cc => ?_) (fun cc => ?_)
                  · replace h := ie h cc
                    exact hb205  _ _ (by omega) (by omega) _ _ _ hS (lv_sub hl [] rfl) h
                  · replace h := it h cc
                    refine lv_iload hx hb dL_entries_137 (lv_at hl 7 rfl) ?_
                    refine lv_if_le (tgt := 170) hx hb dL_entries_139 (by decide) (fun cc => ?_) (fun cc => ?_)
                    · replace h := it h cc
                      exact hb170 k9 G9 GS9 hG9 hGS9 hk9 x1 x2 (s1 + s0) x4 x5 x7 _ _ (by omega) (by omega) _ _ _ hS (lv_sub hl [1, 2, 3, 0, 4, 5, 7] rfl) h
                    · replace h := ie h cc
                      refine lv_iload hx hb dL_entries_142 (lv_at hl 6 rfl) ?_
                      refine lv_aload_n hx hb dL_entries_144 rfl (lv_at hl 1 rfl) ?_
                      refine lv_iload_n hx hb dL_entries_145 rfl (lv_at hl 2 rfl) ?_
                      refine lv_iconst (v := 1) hx hb dL_entries_146 (by decide) ?_
                      refine lv_isub hx hb dL_entries_147 ?_
                      refine lv_iconst (v := 2) hx hb dL_entries_148 (by decide) ?_
                      obtain ⟨v17, ev17, h⟩ := ob h
                      refine r_ci hS (r_runV (As := [.int (x1 - 1), .int 2]) (rest := [.int x6]) X hS (c_X6_entry l hE (w := w) (ad := ad) (μ := μ) (D := D) (cI := cI) (cG := cG) (cL := cL) hw0 ev17) (cwV 2 X.1.2.2.2.2 gL_entries_X6_entry rfl rfl rfl (by decide +kernel) ⟨Nat.le_of_ble_eq_true rfl, Nat.le_of_ble_eq_true rfl⟩) (q0 := q0) (ci := 4) rfl (hw0.1 μ).1 rfl hl.1 rfl (Nat.le_of_ble_eq_true rfl) dL_entries_149 ⟨Nat.le_trans (m := 0) (by omega) (Nat.le_of_ble_eq_true rfl), Nat.le_trans (m := 0) (by omega) (Nat.le_of_ble_eq_true rfl)⟩) (fun H locs hS => ?_)
                      refine lv_icmp_ne (tgt := 205) hx hb dL_entries_152 (by decide) (fun cc => ?_) (fun cc => ?_)
                      · replace h := ie h cc
                        exact hb205  _ _ (by omega) (by omega) _ _ _ hS (lv_sub hl [] rfl) h
                      · replace h := it h cc
                        refine lv_iload hx hb dL_entries_155 (lv_at hl 7 rfl) ?_
                        refine lv_aload_n hx hb dL_entries_157 rfl (lv_at hl 1 rfl) ?_
                        refine lv_iload_n hx hb dL_entries_158 rfl (lv_at hl 2 rfl) ?_
                        refine lv_iconst (v := 1) hx hb dL_entries_159 (by decide) ?_
                        refine lv_isub hx hb dL_entries_160 ?_
                        refine lv_iconst (v := 3) hx hb dL_entries_161 (by decide) ?_
                        obtain ⟨v18, ev18, h⟩ := ob h
                        refine r_ci hS (r_runV (As := [.int (x1 - 1), .int 3]) (rest := [.int x7]) X hS (c_X6_entry l hE (w := w) (ad := ad) (μ := μ) (D := D) (cI := cI) (cG := cG) (cL := cL) hw0 ev18) (cwV 2 X.1.2.2.2.2 gL_entries_X6_entry rfl rfl rfl (by decide +kernel) ⟨Nat.le_of_ble_eq_true rfl, Nat.le_of_ble_eq_true rfl⟩) (q0 := q0) (ci := 4) rfl (hw0.1 μ).1 rfl hl.1 rfl (Nat.le_of_ble_eq_true rfl) dL_entries_162 ⟨Nat.le_trans (m := 0) (by omega) (Nat.le_of_ble_eq_true rfl), Nat.le_trans (m := 0) (by omega) (Nat.le_of_ble_eq_true rfl)⟩) (fun H locs hS => ?_)
                        refine lv_iconst (v := 1) hx hb dL_entries_165 (by decide) ?_
                        refine lv_iadd hx hb dL_entries_166 ?_
                        refine lv_icmp_ne (tgt := 205) hx hb dL_entries_167 (by decide) (fun cc => ?_) (fun cc => ?_)
                        · replace h := ie h cc
                          exact hb205  _ _ (by omega) (by omega) _ _ _ hS (lv_sub hl [] rfl) h
                        · replace h := it h cc
                          exact hb170 k9 G9 GS9 hG9 hGS9 hk9 x1 x2 (s1 + s0) x4 x5 x7 _ _ (by omega) (by omega) _ _ _ hS (lv_sub hl [1, 2, 3, 0, 4, 5, 7] rfl) h
  have hb9 : ∀ (fu : Nat) (x1 : Int32) (x2 : Int32) (x3 : Int32) (x4 : Int32) (cells slots : Nat), cells + (fu * 0 + 0) ≤ 0 → slots + (fu * 0 + 0) ≤ 0 → ∀ (H : Heap) (locs : List Loc) (ls : Array Slot), HS D A (w μ) s.heap H locs → lv_has ls 8 [(0, .ref (ad q0)), (1, .int x1), (2, .int x2), (3, .int x3), (4, .int x4)] → f_L_entries_b9 q0 fu x1 x2 x3 x4 μ = some r → W p l e (headSpec wsL_entries (rmc 5 0 0 117)).room s m args below meth c H locs cells slots (MQ below (PI D A (w μ) r) args s 0 0 A) (F0 m 9 ls []) := by
    intro fu
    induction fu with
    | zero =>
      intro x1 x2 x3 x4 cells slots hc hs H locs ls hS hl h
      rw [f_L_entries_b9] at h
      cases h
    | succ fuel9 ih9 =>
      intro x1 x2 x3 x4 cells slots hc hs H locs ls hS hl h
      rw [f_L_entries_b9] at h
      refine lv_iload hx hb dL_entries_9 (lv_at hl 4 rfl) ?_
      refine lv_bipush (v := 100) hx hb dL_entries_11 (by decide) ?_
      refine lv_icmp_ge (tgt := 221) hx hb dL_entries_13 (by decide) (fun cc => ?_) (fun cc => ?_)
      · replace h := it h cc
        refine lv_aload_n hx hb dL_entries_221 rfl (lv_at hl 0 rfl) ?_
        refine lv_iconst (v := 5) hx hb dL_entries_222 (by decide) ?_
        obtain ⟨v1, ev1, h⟩ := ob h
        refine r_ci hS (r_runV (As := [.int 5]) (rest := []) X hS (c_X6_whole l hE (w := w) (ad := ad) (μ := μ) (D := D) (cI := cI) (cG := cG) (cL := cL) hw0 ev1) (cwV 1 X.1.2.2.2.2 gL_entries_X6_whole rfl rfl rfl (by decide +kernel) ⟨Nat.le_of_ble_eq_true rfl, Nat.le_of_ble_eq_true rfl⟩) (q0 := q0) (ci := 4) rfl (hw0.1 μ).1 rfl hl.1 rfl (Nat.le_of_ble_eq_true rfl) dL_entries_223 ⟨Nat.le_trans (m := 0) (by omega) (Nat.le_of_ble_eq_true rfl), Nat.le_trans (m := 0) (by omega) (Nat.le_of_ble_eq_true rfl)⟩) (fun H locs hS => ?_)
        refine lv_iload_n hx hb dL_entries_226 rfl (lv_at hl 1 rfl) ?_
        refine lv_icmp_ne (tgt := 254) hx hb dL_entries_227 (by decide) (fun cc => ?_) (fun cc => ?_)
        · replace h := ie h cc
          exact hb254  _ _ (by omega) (by omega) _ _ _ hS (lv_sub hl [] rfl) h
        · replace h := it h cc
          refine lv_aload_n hx hb dL_entries_230 rfl (lv_at hl 0 rfl) ?_
          refine lv_bipush (v := 13) hx hb dL_entries_231 (by decide) ?_
          obtain ⟨v3, ev3, h⟩ := ob h
          refine r_ci hS (r_runV (As := [.int 13]) (rest := []) X hS (c_X6_whole l hE (w := w) (ad := ad) (μ := μ) (D := D) (cI := cI) (cG := cG) (cL := cL) hw0 ev3) (cwV 1 X.1.2.2.2.2 gL_entries_X6_whole rfl rfl rfl (by decide +kernel) ⟨Nat.le_of_ble_eq_true rfl, Nat.le_of_ble_eq_true rfl⟩) (q0 := q0) (ci := 4) rfl (hw0.1 μ).1 rfl hl.1 rfl (Nat.le_of_ble_eq_true rfl) dL_entries_233 ⟨Nat.le_trans (m := 0) (by omega) (Nat.le_of_ble_eq_true rfl), Nat.le_trans (m := 0) (by omega) (Nat.le_of_ble_eq_true rfl)⟩) (fun H locs hS => ?_)
          refine lv_iload_n hx hb dL_entries_236 rfl (lv_at hl 2 rfl) ?_
          refine lv_icmp_ne (tgt := 254) hx hb dL_entries_237 (by decide) (fun cc => ?_) (fun cc => ?_)
          · replace h := ie h cc
            exact hb254  _ _ (by omega) (by omega) _ _ _ hS (lv_sub hl [] rfl) h
          · replace h := it h cc
            refine lv_aload_n hx hb dL_entries_240 rfl (lv_at hl 0 rfl) ?_
            refine lv_bipush (v := 6) hx hb dL_entries_241 (by decide) ?_
            obtain ⟨v4, ev4, h⟩ := ob h
            refine r_ci hS (r_runV (As := [.int 6]) (rest := []) X hS (c_X6_whole l hE (w := w) (ad := ad) (μ := μ) (D := D) (cI := cI) (cG := cG) (cL := cL) hw0 ev4) (cwV 1 X.1.2.2.2.2 gL_entries_X6_whole rfl rfl rfl (by decide +kernel) ⟨Nat.le_of_ble_eq_true rfl, Nat.le_of_ble_eq_true rfl⟩) (q0 := q0) (ci := 4) rfl (hw0.1 μ).1 rfl hl.1 rfl (Nat.le_of_ble_eq_true rfl) dL_entries_243 ⟨Nat.le_trans (m := 0) (by omega) (Nat.le_of_ble_eq_true rfl), Nat.le_trans (m := 0) (by omega) (Nat.le_of_ble_eq_true rfl)⟩) (fun H locs hS => ?_)
            refine lv_iload_n hx hb dL_entries_246 rfl (lv_at hl 3 rfl) ?_
            refine lv_icmp_ne (tgt := 254) hx hb dL_entries_247 (by decide) (fun cc => ?_) (fun cc => ?_)
            · replace h := ie h cc
              exact hb254  _ _ (by omega) (by omega) _ _ _ hS (lv_sub hl [] rfl) h
            · replace h := it h cc
              refine lv_iconst (v := 1) hx hb dL_entries_250 (by decide) ?_
              refine lv_goto (tgt := 255) hx hb dL_entries_251 (by decide) ?_
              exact hb255 1 _ _ (by omega) (by omega) _ _ _ hS (lv_sub hl [] rfl) h
      · replace h := ie h cc
        refine lv_aload_n hx hb dL_entries_16 rfl (lv_at hl 0 rfl) ?_
        refine lv_iload hx hb dL_entries_17 (lv_at hl 4 rfl) ?_
        obtain ⟨v5, ev5, h⟩ := ob h
        refine r_ci hS (r_runV (As := [.int x4]) (rest := []) X hS (c_X6_get l hE (w := w) (ad := ad) (μ := μ) (D := D) (cI := cI) (cG := cG) (cL := cL) hw0 ev5) (cwV 1 X.1.2.2.2.2 gL_entries_X6_get rfl rfl rfl (by decide +kernel) ⟨Nat.le_of_ble_eq_true rfl, Nat.le_of_ble_eq_true rfl⟩) (q0 := q0) (ci := 4) rfl (hw0.1 μ).1 rfl hl.1 rfl (Nat.le_of_ble_eq_true rfl) dL_entries_19 ⟨Nat.le_trans (m := 0) (by omega) (Nat.le_of_ble_eq_true rfl), Nat.le_trans (m := 0) (by omega) (Nat.le_of_ble_eq_true rfl)⟩) (fun H locs hS => ?_)
        refine lv_istore (lv' := [(5, .int v5), (0, .ref (ad q0)), (1, .int x1), (2, .int x2), (3, .int x3), (4, .int x4)]) hx hb dL_entries_22 hl (by decide) rfl (fun ls hl => ?_)
        refine lv_iload hx hb dL_entries_24 (lv_at hl 0 rfl) ?_
        refine lv_sipush (v := (-1000)) hx hb dL_entries_26 (by decide) ?_
        refine lv_icmp_eq (tgt := 215) hx hb dL_entries_29 (by decide) (fun cc => ?_) (fun cc => ?_)
        · replace h := it h cc
          exact hb215 (f_L_entries_b9 q0 fuel9) (fuel9 * 0 + 0) (fuel9 * 0 + 0) (by omega) (by omega) (fun x1 x2 x3 x4 cells slots hc hs => ih9 x1 x2 x3 x4 cells slots (by omega) (by omega)) x1 x2 x3 x4 _ _ (by omega) (by omega) _ _ _ hS (lv_sub hl [1, 2, 3, 4, 5] rfl) h
        · replace h := ie h cc
          refine lv_aload_n hx hb dL_entries_32 rfl (lv_at hl 1 rfl) ?_
          refine lv_iload_n hx hb dL_entries_33 rfl (lv_at hl 2 rfl) ?_
          refine lv_iconst (v := 2) hx hb dL_entries_34 (by decide) ?_
          obtain ⟨v6, ev6, h⟩ := ob h
          refine r_ci hS (r_runV (As := [.int x1, .int 2]) (rest := []) X hS (c_X6_entry l hE (w := w) (ad := ad) (μ := μ) (D := D) (cI := cI) (cG := cG) (cL := cL) hw0 ev6) (cwV 2 X.1.2.2.2.2 gL_entries_X6_entry rfl rfl rfl (by decide +kernel) ⟨Nat.le_of_ble_eq_true rfl, Nat.le_of_ble_eq_true rfl⟩) (q0 := q0) (ci := 4) rfl (hw0.1 μ).1 rfl hl.1 rfl (Nat.le_of_ble_eq_true rfl) dL_entries_35 ⟨Nat.le_trans (m := 0) (by omega) (Nat.le_of_ble_eq_true rfl), Nat.le_trans (m := 0) (by omega) (Nat.le_of_ble_eq_true rfl)⟩) (fun H locs hS => ?_)
          refine lv_istore (lv' := [(6, .int v6), (5, .int v5), (0, .ref (ad q0)), (1, .int x1), (2, .int x2), (3, .int x3), (4, .int x4)]) hx hb dL_entries_38 hl (by decide) rfl (fun ls hl => ?_)
          refine lv_aload_n hx hb dL_entries_40 rfl (lv_at hl 2 rfl) ?_
          refine lv_iload_n hx hb dL_entries_41 rfl (lv_at hl 3 rfl) ?_
          refine lv_iconst (v := 3) hx hb dL_entries_42 (by decide) ?_
          obtain ⟨v7, ev7, h⟩ := ob h
          refine r_ci hS (r_runV (As := [.int x1, .int 3]) (rest := []) X hS (c_X6_entry l hE (w := w) (ad := ad) (μ := μ) (D := D) (cI := cI) (cG := cG) (cL := cL) hw0 ev7) (cwV 2 X.1.2.2.2.2 gL_entries_X6_entry rfl rfl rfl (by decide +kernel) ⟨Nat.le_of_ble_eq_true rfl, Nat.le_of_ble_eq_true rfl⟩) (q0 := q0) (ci := 4) rfl (hw0.1 μ).1 rfl hl.1 rfl (Nat.le_of_ble_eq_true rfl) dL_entries_43 ⟨Nat.le_trans (m := 0) (by omega) (Nat.le_of_ble_eq_true rfl), Nat.le_trans (m := 0) (by omega) (Nat.le_of_ble_eq_true rfl)⟩) (fun H locs hS => ?_)
          refine lv_istore (lv' := [(7, .int v7), (6, .int v6), (5, .int v5), (0, .ref (ad q0)), (1, .int x1), (2, .int x2), (3, .int x3), (4, .int x4)]) hx hb dL_entries_46 hl (by decide) rfl (fun ls hl => ?_)
          refine lv_iload_n hx hb dL_entries_48 rfl (lv_at hl 6 rfl) ?_
          refine lv_iload hx hb dL_entries_49 (lv_at hl 0 rfl) ?_
          refine lv_if_ne (tgt := 58) hx hb dL_entries_51 (by decide) (fun cc => ?_) (fun cc => ?_)
          · replace h := ie h cc
            refine lv_iconst (v := 0) hx hb dL_entries_58 (by decide) ?_
            exact hb59 (f_L_entries_b9 q0 fuel9) (fuel9 * 0 + 0) (fuel9 * 0 + 0) (by omega) (by omega) (fun x1 x2 x3 x4 cells slots hc hs => ih9 x1 x2 x3 x4 cells slots (by omega) (by omega)) x1 x2 x4 v5 v6 v7 0 x3 _ _ (by omega) (by omega) _ _ _ hS (lv_sub hl [3, 4, 5, 7, 2, 1, 0] rfl) h
          · replace h := it h cc
            refine lv_iconst (v := 1) hx hb dL_entries_54 (by decide) ?_
            refine lv_goto (tgt := 59) hx hb dL_entries_55 (by decide) ?_
            exact hb59 (f_L_entries_b9 q0 fuel9) (fuel9 * 0 + 0) (fuel9 * 0 + 0) (by omega) (by omega) (fun x1 x2 x3 x4 cells slots hc hs => ih9 x1 x2 x3 x4 cells slots (by omega) (by omega)) x1 x2 x4 v5 v6 v7 1 x3 _ _ (by omega) (by omega) _ _ _ hS (lv_sub hl [3, 4, 5, 7, 2, 1, 0] rfl) h
  have key : ∀ (cells slots : Nat), cells + 0 ≤ 0 → slots + 0 ≤ 0 → W p l e (headSpec wsL_entries (rmc 5 0 0 117)).room s m args below meth c s.heap [] cells slots (MQ below (PI D A (w μ) r) args s 0 0 A) (F0 m 0 ls []) := by
    intro cells slots hc hs
    unfold f_L_entries at h
    refine lv_iconst (v := 0) hx hb dL_entries_0 (by decide) ?_
    refine lv_istore_n (lv' := [(1, .int 0), (0, .ref (ad q0))]) hx hb dL_entries_1 rfl hl (by decide) rfl (fun ls hl => ?_)
    refine lv_iconst (v := 0) hx hb dL_entries_2 (by decide) ?_
    refine lv_istore_n (lv' := [(2, .int 0), (1, .int 0), (0, .ref (ad q0))]) hx hb dL_entries_3 rfl hl (by decide) rfl (fun ls hl => ?_)
    refine lv_iconst (v := 0) hx hb dL_entries_4 (by decide) ?_
    refine lv_istore_n (lv' := [(3, .int 0), (2, .int 0), (1, .int 0), (0, .ref (ad q0))]) hx hb dL_entries_5 rfl hl (by decide) rfl (fun ls hl => ?_)
    refine lv_iconst (v := 0) hx hb dL_entries_6 (by decide) ?_
    refine lv_istore (lv' := [(4, .int 0), (3, .int 0), (2, .int 0), (1, .int 0), (0, .ref (ad q0))]) hx hb dL_entries_7 hl (by decide) rfl (fun ls hl => ?_)
    exact hb9 101 0 0 0 0 _ _ (by omega) (by omega) _ _ _ hS (lv_sub hl [4, 3, 2, 1, 0] rfl) h
  exact key 0 0 (by decide) (by decide)
