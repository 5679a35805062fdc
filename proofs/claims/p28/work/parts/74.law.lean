def f_L_law_b203 (xs : Nat → Int32) (L : Nat) (x2 : Int32) (μ : Mem) : Option (Int32 × Mem) := (zr x2).bind (fun v3 => (some (v3, μ)))
def f_L_law_b196 (xs : Nat → Int32) (L : Nat) (k65 : Int32 → Int32 → Mem → Option (Int32 × Mem)) (x3 : Int32) (s0 : Int32) (μ : Mem) : Option (Int32 × Mem) := k65 s0 (x3 + 1) μ
def f_L_law_b195 (xs : Nat → Int32) (L : Nat) (k65 : Int32 → Int32 → Mem → Option (Int32 × Mem)) (x3 : Int32) (μ : Mem) : Option (Int32 × Mem) := f_L_law_b196 xs L k65 x3 0 μ
def f_L_law_b191 (xs : Nat → Int32) (L : Nat) (k65 : Int32 → Int32 → Mem → Option (Int32 × Mem)) (x3 : Int32) (μ : Mem) : Option (Int32 × Mem) := f_L_law_b196 xs L k65 x3 1 μ
def f_L_law_b174 (xs : Nat → Int32) (L : Nat) (k65 : Int32 → Int32 → Mem → Option (Int32 × Mem)) (x3 : Int32) (x5 : Int64) (x7 : Int32) (μ : Mem) : Option (Int32 × Mem) := (if 11 < x7 then f_L_law_b191 xs L k65 x3 μ else (f_L_sight 0 μ).bind (fun v13 => (if (lg_cmp v13 x5) = 0 then f_L_law_b191 xs L k65 x3 μ else f_L_law_b195 xs L k65 x3 μ)))
def f_L_law_b132 (xs : Nat → Int32) (L : Nat) (k65 : Int32 → Int32 → Mem → Option (Int32 × Mem)) (x3 : Int32) (x5 : Int64) (x7 : Int32) (s0 : Int32) (μ : Mem) : Option (Int32 × Mem) := (f_L_lot xs L ((2 * x3) + 1)).bind (fun v7 => bn2 (f_L_acts 0 s0 v7 μ) (fun v8 μ9 => (if v8 = 0 then f_L_law_b195 xs L k65 x3 μ9 else bn2 (f_L_beds μ9) (fun v10 μ11 => (if v10 = 0 then f_L_law_b195 xs L k65 x3 μ11 else (f_L_roots 0 μ11).bind (fun v12 => (if v12 = 0 then f_L_law_b195 xs L k65 x3 μ11 else (if (x3 - x3 / 2 * 2) = 0 then f_L_law_b174 xs L k65 x3 x5 x7 μ11 else (f_L_entries 0 μ11).bind (fun v14 => (if v14 = 0 then f_L_law_b195 xs L k65 x3 μ11 else f_L_law_b174 xs L k65 x3 x5 x7 μ11))))))))))
def f_L_law_b102 (xs : Nat → Int32) (L : Nat) (k65 : Int32 → Int32 → Mem → Option (Int32 × Mem)) (x3 : Int32) (x4 : Int32) (x5 : Int64) (s0 : Int32) (μ : Mem) : Option (Int32 × Mem) := (f_L_low s0 20).bind (fun v6 => (if 8 ≤ x3 then f_L_law_b132 xs L k65 x3 x5 v6 x4 μ else f_L_law_b132 xs L k65 x3 x5 v6 (((x4 &&& 2147483647) / 20) * 20) μ))
def f_L_law_b65 (xs : Nat → Int32) (L : Nat)  : Nat → Int32 → Int32 → Mem → Option (Int32 × Mem)
  | 0, _, _, _ => none
  | fuel65 + 1, x2, x3, μ => (if 60 ≤ x3 then f_L_law_b203 xs L x2 μ else (if x2 = 0 then f_L_law_b203 xs L x2 μ else (f_L_lot xs L (2 * x3)).bind (fun v4 => (f_L_sight 0 μ).bind (fun v5 => (if 8 ≤ x3 then f_L_law_b102 xs L (f_L_law_b65 xs L fuel65) x3 v4 v5 v4 μ else f_L_law_b102 xs L (f_L_law_b65 xs L fuel65) x3 v4 v5 0 μ)))))
def f_L_law_b62 (xs : Nat → Int32) (L : Nat) (s0 : Int32) (μ : Mem) : Option (Int32 × Mem) := f_L_law_b65 xs L 61 s0 0 μ
def f_L_law_b61 (xs : Nat → Int32) (L : Nat)  (μ : Mem) : Option (Int32 × Mem) := f_L_law_b62 xs L 0 μ
def f_L_law (xs : Nat → Int32) (L : Nat) (μ : Mem) : Option (Int32 × Mem) := bn2 (f_L_beds μ) (fun v1 μ2 => (if v1 = 0 then f_L_law_b61 xs L μ2 else (f_L_roots 0 μ2).bind (fun v15 => (if v15 = 0 then f_L_law_b61 xs L μ2 else (f_L_entries 0 μ2).bind (fun v16 => (if v16 = 0 then f_L_law_b61 xs L μ2 else bn2 (f_L_undo 0 μ2) (fun v17 μ18 => (if v17 = (-2902) then bn2 (f_L_abort 0 μ18) (fun v19 μ20 => (if v19 = (-2902) then bn2 (f_X6_begin 0 μ20) (fun v21 μ22 => (if v21 = 1 then f_L_law_b62 xs L 1 μ22 else f_L_law_b61 xs L μ22)) else f_L_law_b61 xs L μ20)) else f_L_law_b61 xs L μ18))))))))
set_option maxHeartbeats 8000000 in
set_option maxRecDepth 100000 in
theorem law_walk (l : Launch) {D : va_G} {cI cG cL : ClassId} {tC tS : Nat} {adE adK adV : Nat → Nat} {p : Program} {e : Env} {s : State} {m : MethodId} {below : List Frame} {meth : Method} {c : Code} {b L : Nat} {xs : Nat → Int32} {A : Nat → Prop} (eA : A = fun q => s.heap.size ≤ q) (hE : EnOK (ENV tC tS adE adK adV A) A) (hst : l.stackTraces = false) (X : Cx p s m #[.ref b] c cL_law 8 wsL_law RL D (tyl cI cG cL) A (ENV tC tS adE adK adV A)) (X1 : Cx p s m #[.ref b] c cL_law 8 wsL_law RL D (tyl cI cG cL) A (ENX b L xs (ENV tC tS adE adK adV A))) (hbA : ¬ A b) (hr : meth.sig.returnType = ret) (hlk : meth.locks = false) {w : Mem → va_W} {ad : Nat → Nat} (hw : ∀ μ, w μ = cPG cI cG adE ad 0 μ) (hw0 : PGAt cI cG adE w ad 0) {μ μ' : Mem} (h : f_L_law xs L μ = some (1, μ')) : ∀ (cells slots : Nat), cells + 154892 ≤ 155092 → slots + 929166 ≤ 937166 → ∀ (H : Heap) (locs : List Loc) (ls : Array Slot), HS D A (w μ) s.heap H locs → lv_has ls 8 [(1, .ref (ad 0)), (0, .ref b)] → W p l e room_1 s m #[.ref b] below meth c H locs cells slots (lw_Z below #[.ref b] s) (F0 m 8 ls []) := by
  have mc8 : Cond.constant RL 8 2147483647 ∈ wsL_law := by decide +kernel
  have hx := X.1.1
  have hb := X.1.2.1
  have hz : s.heap.size ≤ s.heap.size := Nat.le_refl _
  have hA : ∀ q, s.heap.size ≤ q → A q := fun q h => by rw [eA]; exact h
  have kend : ∀ (cells slots : Nat), cells ≤ 155092 → slots ≤ 937166 → ∀ (H : Heap) (locs : List Loc) (ls : Array Slot), HS D A (w μ') s.heap H locs → W p l e room_1 s m #[.ref b] below meth c H locs cells slots (lw_Z below #[.ref b] s) (F0 m 204 ls [.int 1]) := by
    intro cells slots hc hs H locs ls hS
    refine va_forget (fun q hq => by have z := hS.2.2.2.2 q hq; rw [eA] at z; exact z) ?_
    refine W.widen (k := 780062) (n := 6760997) (by omega) (by omega) ?_
    exact lw_ret hx hb hr hlk dL_law_204
  have hb203 : ∀ (x2 : Int32) (μ : Mem) (cells slots : Nat), cells + 0 ≤ 155092 → slots + 0 ≤ 937166 → ∀ (H : Heap) (locs : List Loc) (ls : Array Slot), HS D A (w μ) s.heap H locs → lv_has ls 8 [(2, .int x2)] → f_L_law_b203 xs L x2 μ = some (1, μ') → W p l e room_1 s m #[.ref b] below meth c H locs cells slots (lw_Z below #[.ref b] s) (F0 m 203 ls []) := by
    intro x2 μ cells slots hc hs H locs ls hS hl h
    unfold f_L_law_b203 at h
    refine lv_iload_n hx hb dL_law_203 rfl (lv_at hl 0 rfl) ?_
    obtain ⟨v3, ev3, h⟩ := ob h
    obtain ⟨ezv3, eov3⟩ := zr_ok ev3
    rw [ezv3]
    obtain ⟨rfl, rfl⟩ := pr2 h
    exact kend _ _ (by omega) (by omega) _ _ _ hS
  have hb196 : ∀ (k65 : Int32 → Int32 → Mem → Option (Int32 × Mem)) (G65 GS65 : Nat), 0 ≤ G65 → 0 ≤ GS65 → (∀ (x2 : Int32) (x3 : Int32) (μ : Mem) (cells slots : Nat), cells + G65 ≤ 155092 → slots + GS65 ≤ 937166 → ∀ (H : Heap) (locs : List Loc) (ls : Array Slot), HS D A (w μ) s.heap H locs → lv_has ls 8 [(0, .ref b), (1, .ref (ad 0)), (2, .int x2), (3, .int x3)] → k65 x2 x3 μ = some (1, μ') → W p l e room_1 s m #[.ref b] below meth c H locs cells slots (lw_Z below #[.ref b] s) (F0 m 65 ls [])) → ∀ (x3 : Int32) (s0 : Int32) (μ : Mem) (cells slots : Nat), cells + 0 + G65 ≤ 155092 → slots + 0 + GS65 ≤ 937166 → ∀ (H : Heap) (locs : List Loc) (ls : Array Slot), HS D A (w μ) s.heap H locs → lv_has ls 8 [(0, .ref b), (1, .ref (ad 0)), (3, .int x3)] → f_L_law_b196 xs L k65 x3 s0 μ = some (1, μ') → W p l e room_1 s m #[.ref b] below meth c H locs cells slots (lw_Z below #[.ref b] s) (F0 m 196 ls [.int s0]) := by
    intro k65 G65 GS65 hG65 hGS65 hk65 x3 s0 μ cells slots hc hs H locs ls hS hl h
    unfold f_L_law_b196 at h
    refine lv_istore_n (lv' := [(2, .int s0), (0, .ref b), (1, .ref (ad 0)), (3, .int x3)]) hx hb dL_law_196 rfl hl (by decide) rfl (fun ls hl => ?_)
    refine lv_iinc (v := x3 + 1) (lv' := [(3, .int (x3 + 1)), (2, .int s0), (0, .ref b), (1, .ref (ad 0))]) hx hb dL_law_197 hl (k := 3) rfl rfl (by decide) rfl (fun ls hl => ?_)
    refine lv_goto (tgt := 65) hx hb dL_law_200 (by decide) ?_
    exact hk65 s0 (x3 + 1) μ _ _ (by omega) (by omega) _ _ _ hS (lv_sub hl [2, 3, 1, 0] rfl) h
  have hb195 : ∀ (k65 : Int32 → Int32 → Mem → Option (Int32 × Mem)) (G65 GS65 : Nat), 0 ≤ G65 → 0 ≤ GS65 → (∀ (x2 : Int32) (x3 : Int32) (μ : Mem) (cells slots : Nat), cells + G65 ≤ 155092 → slots + GS65 ≤ 937166 → ∀ (H : Heap) (locs : List Loc) (ls : Array Slot), HS D A (w μ) s.heap H locs → lv_has ls 8 [(0, .ref b), (1, .ref (ad 0)), (2, .int x2), (3, .int x3)] → k65 x2 x3 μ = some (1, μ') → W p l e room_1 s m #[.ref b] below meth c H locs cells slots (lw_Z below #[.ref b] s) (F0 m 65 ls [])) → ∀ (x3 : Int32) (μ : Mem) (cells slots : Nat), cells + 0 + G65 ≤ 155092 → slots + 0 + GS65 ≤ 937166 → ∀ (H : Heap) (locs : List Loc) (ls : Array Slot), HS D A (w μ) s.heap H locs → lv_has ls 8 [(0, .ref b), (1, .ref (ad 0)), (3, .int x3)] → f_L_law_b195 xs L k65 x3 μ = some (1, μ') → W p l e room_1 s m #[.ref b] below meth c H locs cells slots (lw_Z below #[.ref b] s) (F0 m 195 ls []) := by
    intro k65 G65 GS65 hG65 hGS65 hk65 x3 μ cells slots hc hs H locs ls hS hl h
    unfold f_L_law_b195 at h
    refine lv_iconst (v := 0) hx hb dL_law_195 (by decide) ?_
    exact hb196 k65 G65 GS65 hG65 hGS65 hk65 x3 0 μ _ _ (by omega) (by omega) _ _ _ hS (lv_sub hl [0, 1, 2] rfl) h
  have hb191 : ∀ (k65 : Int32 → Int32 → Mem → Option (Int32 × Mem)) (G65 GS65 : Nat), 0 ≤ G65 → 0 ≤ GS65 → (∀ (x2 : Int32) (x3 : Int32) (μ : Mem) (cells slots : Nat), cells + G65 ≤ 155092 → slots + GS65 ≤ 937166 → ∀ (H : Heap) (locs : List Loc) (ls : Array Slot), HS D A (w μ) s.heap H locs → lv_has ls 8 [(0, .ref b), (1, .ref (ad 0)), (2, .int x2), (3, .int x3)] → k65 x2 x3 μ = some (1, μ') → W p l e room_1 s m #[.ref b] below meth c H locs cells slots (lw_Z below #[.ref b] s) (F0 m 65 ls [])) → ∀ (x3 : Int32) (μ : Mem) (cells slots : Nat), cells + 0 + G65 ≤ 155092 → slots + 0 + GS65 ≤ 937166 → ∀ (H : Heap) (locs : List Loc) (ls : Array Slot), HS D A (w μ) s.heap H locs → lv_has ls 8 [(0, .ref b), (1, .ref (ad 0)), (3, .int x3)] → f_L_law_b191 xs L k65 x3 μ = some (1, μ') → W p l e room_1 s m #[.ref b] below meth c H locs cells slots (lw_Z below #[.ref b] s) (F0 m 191 ls []) := by
    intro k65 G65 GS65 hG65 hGS65 hk65 x3 μ cells slots hc hs H locs ls hS hl h
    unfold f_L_law_b191 at h
    refine lv_iconst (v := 1) hx hb dL_law_191 (by decide) ?_
    refine lv_goto (tgt := 196) hx hb dL_law_192 (by decide) ?_
    exact hb196 k65 G65 GS65 hG65 hGS65 hk65 x3 1 μ _ _ (by omega) (by omega) _ _ _ hS (lv_sub hl [0, 1, 2] rfl) h
  have hb174 : ∀ (k65 : Int32 → Int32 → Mem → Option (Int32 × Mem)) (G65 GS65 : Nat), 0 ≤ G65 → 0 ≤ GS65 → (∀ (x2 : Int32) (x3 : Int32) (μ : Mem) (cells slots : Nat), cells + G65 ≤ 155092 → slots + GS65 ≤ 937166 → ∀ (H : Heap) (locs : List Loc) (ls : Array Slot), HS D A (w μ) s.heap H locs → lv_has ls 8 [(0, .ref b), (1, .ref (ad 0)), (2, .int x2), (3, .int x3)] → k65 x2 x3 μ = some (1, μ') → W p l e room_1 s m #[.ref b] below meth c H locs cells slots (lw_Z below #[.ref b] s) (F0 m 65 ls [])) → ∀ (x3 : Int32) (x5 : Int64) (x7 : Int32) (μ : Mem) (cells slots : Nat), cells + 505 + G65 ≤ 155092 → slots + 3030 + GS65 ≤ 937166 → ∀ (H : Heap) (locs : List Loc) (ls : Array Slot), HS D A (w μ) s.heap H locs → lv_has ls 8 [(0, .ref b), (1, .ref (ad 0)), (3, .int x3), (5, .long x5), (7, .int x7)] → f_L_law_b174 xs L k65 x3 x5 x7 μ = some (1, μ') → W p l e room_1 s m #[.ref b] below meth c H locs cells slots (lw_Z below #[.ref b] s) (F0 m 174 ls []) := by
    intro k65 G65 GS65 hG65 hGS65 hk65 x3 x5 x7 μ cells slots hc hs H locs ls hS hl h
    unfold f_L_law_b174 at h
    refine lv_iload hx hb dL_law_174 (lv_at hl 4 rfl) ?_
    refine lv_bipush (v := 11) hx hb dL_law_176 (by decide) ?_
    refine lv_icmp_gt (tgt := 191) hx hb dL_law_178 (by decide) (fun cc => ?_) (fun cc => ?_)
    · replace h := it h cc
      exact hb191 k65 G65 GS65 hG65 hGS65 hk65 x3 μ _ _ (by omega) (by omega) _ _ _ hS (lv_sub hl [0, 1, 2] rfl) h
    · replace h := ie h cc
      refine lv_aload_n hx hb dL_law_181 rfl (lv_at hl 1 rfl) ?_
      obtain ⟨v13, ev13, h⟩ := ob h
      refine r_clm hS (r_runSm (mc := 505) (ms := 3030) (As := [.ref (ad 0)]) (rest := []) X hS (c_L_sight l hE hst (w := w) (ad := ad) (μ := μ) (D := D) (cI := cI) (cG := cG) (cL := cL) hw0 ev13) (va_cwS 1 X.1.2.2.2.2 gL_law_L_sight rfl rfl rfl (by decide +kernel) ⟨Nat.le_of_ble_eq_true rfl, Nat.le_of_ble_eq_true rfl⟩) rfl hl.1 rfl (Nat.le_of_ble_eq_true rfl) dL_law_182 ⟨Nat.le_trans (m := 155092) (by omega) (Nat.le_of_ble_eq_true rfl), Nat.le_trans (m := 937166) (by omega) (Nat.le_of_ble_eq_true rfl)⟩) (fun H locs hS => ?_)
      refine lv_lload hx hb dL_law_185 (lv_at hl 3 rfl) ?_
      refine W.lcmp hx hb dL_law_187 ?_
      refine lv_if_ne (tgt := 195) hx hb dL_law_188 (by decide) (fun cc => ?_) (fun cc => ?_)
      · replace h := ie h cc
        exact hb195 k65 G65 GS65 hG65 hGS65 hk65 x3 μ _ _ (by omega) (by omega) _ _ _ hS (lv_sub hl [0, 1, 2] rfl) h
      · replace h := it h cc
        exact hb191 k65 G65 GS65 hG65 hGS65 hk65 x3 μ _ _ (by omega) (by omega) _ _ _ hS (lv_sub hl [0, 1, 2] rfl) h
  have hb132 : ∀ (k65 : Int32 → Int32 → Mem → Option (Int32 × Mem)) (G65 GS65 : Nat), 0 ≤ G65 → 0 ≤ GS65 → (∀ (x2 : Int32) (x3 : Int32) (μ : Mem) (cells slots : Nat), cells + G65 ≤ 155092 → slots + GS65 ≤ 937166 → ∀ (H : Heap) (locs : List Loc) (ls : Array Slot), HS D A (w μ) s.heap H locs → lv_has ls 8 [(0, .ref b), (1, .ref (ad 0)), (2, .int x2), (3, .int x3)] → k65 x2 x3 μ = some (1, μ') → W p l e room_1 s m #[.ref b] below meth c H locs cells slots (lw_Z below #[.ref b] s) (F0 m 65 ls [])) → ∀ (x3 : Int32) (x5 : Int64) (x7 : Int32) (s0 : Int32) (μ : Mem) (cells slots : Nat), cells + 2034 + G65 ≤ 155092 → slots + 12201 + GS65 ≤ 937166 → ∀ (H : Heap) (locs : List Loc) (ls : Array Slot), HS D A (w μ) s.heap H locs → lv_has ls 8 [(0, .ref b), (1, .ref (ad 0)), (3, .int x3), (5, .long x5), (7, .int x7)] → f_L_law_b132 xs L k65 x3 x5 x7 s0 μ = some (1, μ') → W p l e room_1 s m #[.ref b] below meth c H locs cells slots (lw_Z below #[.ref b] s) (F0 m 132 ls [.int s0, .ref (ad 0)]) := by
    intro k65 G65 GS65 hG65 hGS65 hk65 x3 x5 x7 s0 μ cells slots hc hs H locs ls hS hl h
    unfold f_L_law_b132 at h
    refine lv_aload_n hx hb dL_law_132 rfl (lv_at hl 0 rfl) ?_
    refine lv_iconst (v := 2) hx hb dL_law_133 (by decide) ?_
    refine lv_iload_n hx hb dL_law_134 rfl (lv_at hl 2 rfl) ?_
    refine lv_imul hx hb dL_law_135 ?_
    refine lv_iconst (v := 1) hx hb dL_law_136 (by decide) ?_
    refine lv_iadd hx hb dL_law_137 ?_
    obtain ⟨v7, ev7, h⟩ := ob h
    refine r_cim hS (r_runSm (mc := 0) (ms := 0) (As := [.ref b, .int ((2 * x3) + 1)]) (rest := [.int s0, .ref (ad 0)]) X1 hS (c_L_lot l (w := w) (ad := ad) (μ := μ) (D := D) (cI := cI) (cG := cG) (cL := cL) hbA hE ev7) (va_cwS 2 X1.1.2.2.2.2 gL_law_L_lot rfl rfl rfl (by decide +kernel) ⟨Nat.le_of_ble_eq_true rfl, Nat.le_of_ble_eq_true rfl⟩) rfl hl.1 rfl (Nat.le_of_ble_eq_true rfl) dL_law_138 ⟨Nat.le_trans (m := 155092) (by omega) (Nat.le_of_ble_eq_true rfl), Nat.le_trans (m := 937166) (by omega) (Nat.le_of_ble_eq_true rfl)⟩) (fun H locs hS => ?_)
    obtain ⟨v8, μ9, ev8, h⟩ := ob2 h
    refine r_cim hS (r_runSm (mc := 1518) (ms := 9108) (As := [.ref (ad 0), .int s0, .int v7]) (rest := []) X hS (c_L_acts l hE hst (w := w) (ad := ad) (μ := μ) (D := D) (cI := cI) (cG := cG) (cL := cL) hw0 ev8) (va_cwS 3 X.1.2.2.2.2 gL_law_L_acts rfl rfl rfl (by decide +kernel) ⟨Nat.le_of_ble_eq_true rfl, Nat.le_of_ble_eq_true rfl⟩) rfl hl.1 rfl (Nat.le_of_ble_eq_true rfl) dL_law_141 ⟨Nat.le_trans (m := 155092) (by omega) (Nat.le_of_ble_eq_true rfl), Nat.le_trans (m := 937166) (by omega) (Nat.le_of_ble_eq_true rfl)⟩) (fun H locs hS => ?_)
    refine lv_if_eq (tgt := 195) hx hb dL_law_144 (by decide) (fun cc => ?_) (fun cc => ?_)
    · replace h := it h cc
      exact hb195 k65 G65 GS65 hG65 hGS65 hk65 x3 μ9 _ _ (by omega) (by omega) _ _ _ hS (lv_sub hl [0, 1, 2] rfl) h
    · replace h := ie h cc
      refine lv_aload_n hx hb dL_law_147 rfl (lv_at hl 1 rfl) ?_
      obtain ⟨v10, μ11, ev10, h⟩ := ob2 h
      refine r_cim hS (r_runSmN (mc := 1) (ms := 3) (As := [.ref (ad 0)]) (rest := []) X hS hz (c_L_beds_w l hE hst hA hw (μ := μ9) (D := D) (cI := cI) (cG := cG) (cL := cL) ev10) (va_cwS 1 X.1.2.2.2.2 gL_law_L_beds rfl rfl rfl (by decide +kernel) ⟨Nat.le_of_ble_eq_true rfl, Nat.le_of_ble_eq_true rfl⟩) rfl hl.1 rfl (Nat.le_of_ble_eq_true rfl) dL_law_148 ⟨Nat.le_trans (m := 155092) (by omega) (Nat.le_of_ble_eq_true rfl), Nat.le_trans (m := 937166) (by omega) (Nat.le_of_ble_eq_true rfl)⟩) (fun H locs hS => ?_)
      refine lv_if_eq (tgt := 195) hx hb dL_law_151 (by decide) (fun cc => ?_) (fun cc => ?_)
      · replace h := it h cc
        exact hb195 k65 G65 GS65 hG65 hGS65 hk65 x3 μ11 _ _ (by omega) (by omega) _ _ _ hS (lv_sub hl [0, 1, 2] rfl) h
      · replace h := ie h cc
        refine lv_aload_n hx hb dL_law_154 rfl (lv_at hl 1 rfl) ?_
        obtain ⟨v12, ev12, h⟩ := ob h
        refine r_cim hS (r_runSm (mc := 10) (ms := 60) (As := [.ref (ad 0)]) (rest := []) X hS (c_L_roots l hE hst (w := w) (ad := ad) (μ := μ11) (D := D) (cI := cI) (cG := cG) (cL := cL) hw0 ev12) (va_cwS 1 X.1.2.2.2.2 gL_law_L_roots rfl rfl rfl (by decide +kernel) ⟨Nat.le_of_ble_eq_true rfl, Nat.le_of_ble_eq_true rfl⟩) rfl hl.1 rfl (Nat.le_of_ble_eq_true rfl) dL_law_155 ⟨Nat.le_trans (m := 155092) (by omega) (Nat.le_of_ble_eq_true rfl), Nat.le_trans (m := 937166) (by omega) (Nat.le_of_ble_eq_true rfl)⟩) (fun H locs hS => ?_)
        refine lv_if_eq (tgt := 195) hx hb dL_law_158 (by decide) (fun cc => ?_) (fun cc => ?_)
        · replace h := it h cc
          exact hb195 k65 G65 GS65 hG65 hGS65 hk65 x3 μ11 _ _ (by omega) (by omega) _ _ _ hS (lv_sub hl [0, 1, 2] rfl) h
        · replace h := ie h cc
          refine lv_iload_n hx hb dL_law_161 rfl (lv_at hl 2 rfl) ?_
          refine lv_iconst (v := 2) hx hb dL_law_162 (by decide) ?_
          refine lv_irem hx hb dL_law_163 (by decide) ?_
          refine lv_if_eq (tgt := 174) hx hb dL_law_164 (by decide) (fun cc => ?_) (fun cc => ?_)
          · replace h := it h cc
            exact hb174 k65 G65 GS65 hG65 hGS65 hk65 x3 x5 x7 μ11 _ _ (by omega) (by omega) _ _ _ hS (lv_sub hl [0, 1, 2, 3, 4] rfl) h
          · replace h := ie h cc
            refine lv_aload_n hx hb dL_law_167 rfl (lv_at hl 1 rfl) ?_
            obtain ⟨v14, ev14, h⟩ := ob h
            refine r_cim hS (r_runSm (mc := 0) (ms := 0) (As := [.ref (ad 0)]) (rest := []) X hS (c_L_entries l hE hst (w := w) (ad := ad) (μ := μ11) (D := D) (cI := cI) (cG := cG) (cL := cL) hw0 ev14) (va_cwS 1 X.1.2.2.2.2 gL_law_L_entries rfl rfl rfl (by decide +kernel) ⟨Nat.le_of_ble_eq_true rfl, Nat.le_of_ble_eq_true rfl⟩) rfl hl.1 rfl (Nat.le_of_ble_eq_true rfl) dL_law_168 ⟨Nat.le_trans (m := 155092) (by omega) (Nat.le_of_ble_eq_true rfl), Nat.le_trans (m := 937166) (by omega) (Nat.le_of_ble_eq_true rfl)⟩) (fun H locs hS => ?_)
            refine lv_if_eq (tgt := 195) hx hb dL_law_171 (by decide) (fun cc => ?_) (fun cc => ?_)
            · replace h := it h cc
              exact hb195 k65 G65 GS65 hG65 hGS65 hk65 x3 μ11 _ _ (by omega) (by omega) _ _ _ hS (lv_sub hl [0, 1, 2] rfl) h
            · replace h := ie h cc
              exact hb174 k65 G65 GS65 hG65 hGS65 hk65 x3 x5 x7 μ11 _ _ (by omega) (by omega) _ _ _ hS (lv_sub hl [0, 1, 2, 3, 4] rfl) h
  have hb102 : ∀ (k65 : Int32 → Int32 → Mem → Option (Int32 × Mem)) (G65 GS65 : Nat), 0 ≤ G65 → 0 ≤ GS65 → (∀ (x2 : Int32) (x3 : Int32) (μ : Mem) (cells slots : Nat), cells + G65 ≤ 155092 → slots + GS65 ≤ 937166 → ∀ (H : Heap) (locs : List Loc) (ls : Array Slot), HS D A (w μ) s.heap H locs → lv_has ls 8 [(0, .ref b), (1, .ref (ad 0)), (2, .int x2), (3, .int x3)] → k65 x2 x3 μ = some (1, μ') → W p l e room_1 s m #[.ref b] below meth c H locs cells slots (lw_Z below #[.ref b] s) (F0 m 65 ls [])) → ∀ (x3 : Int32) (x4 : Int32) (x5 : Int64) (s0 : Int32) (μ : Mem) (cells slots : Nat), cells + 2034 + G65 ≤ 155092 → slots + 12201 + GS65 ≤ 937166 → ∀ (H : Heap) (locs : List Loc) (ls : Array Slot), HS D A (w μ) s.heap H locs → lv_has ls 8 [(0, .ref b), (1, .ref (ad 0)), (3, .int x3), (4, .int x4), (5, .long x5)] → f_L_law_b102 xs L k65 x3 x4 x5 s0 μ = some (1, μ') → W p l e room_1 s m #[.ref b] below meth c H locs cells slots (lw_Z below #[.ref b] s) (F0 m 102 ls [.int s0]) := by
    intro k65 G65 GS65 hG65 hGS65 hk65 x3 x4 x5 s0 μ cells slots hc hs H locs ls hS hl h
    unfold f_L_law_b102 at h
    refine lv_bipush (v := 20) hx hb dL_law_102 (by decide) ?_
    obtain ⟨v6, ev6, h⟩ := ob h
    refine r_cim hS (r_runSm (mc := 0) (ms := 0) (As := [.int s0, .int 20]) (rest := []) X hS (c_L_low l hE (w := w) (ad := ad) (μ := μ) (D := D) (cI := cI) (cG := cG) (cL := cL) ev6) (va_cwS 2 X.1.2.2.2.2 gL_law_L_low rfl rfl rfl (by decide +kernel) ⟨Nat.le_of_ble_eq_true rfl, Nat.le_of_ble_eq_true rfl⟩) rfl hl.1 rfl (Nat.le_of_ble_eq_true rfl) dL_law_104 ⟨Nat.le_trans (m := 155092) (by omega) (Nat.le_of_ble_eq_true rfl), Nat.le_trans (m := 937166) (by omega) (Nat.le_of_ble_eq_true rfl)⟩) (fun H locs hS => ?_)
    refine lv_istore (lv' := [(7, .int v6), (0, .ref b), (1, .ref (ad 0)), (3, .int x3), (4, .int x4), (5, .long x5)]) hx hb dL_law_107 hl (by decide) rfl (fun ls hl => ?_)
    refine lv_aload_n hx hb dL_law_109 rfl (lv_at hl 2 rfl) ?_
    refine lv_iload_n hx hb dL_law_110 rfl (lv_at hl 3 rfl) ?_
    refine lv_bipush (v := 8) hx hb dL_law_111 (by decide) ?_
    refine lv_icmp_ge (tgt := 130) hx hb dL_law_113 (by decide) (fun cc => ?_) (fun cc => ?_)
    · replace h := it h cc
      refine lv_iload hx hb dL_law_130 (lv_at hl 4 rfl) ?_
      exact hb132 k65 G65 GS65 hG65 hGS65 hk65 x3 x5 v6 x4 μ _ _ (by omega) (by omega) _ _ _ hS (lv_sub hl [1, 2, 3, 5, 0] rfl) h
    · replace h := ie h cc
      refine lv_iload hx hb dL_law_116 (lv_at hl 4 rfl) ?_
      refine lv_ldc (v := 2147483647) hx hb X.1.2.2.2.1 (X.1.2.2.2.2 _ mc8) dL_law_118 ?_
      refine lv_iand hx hb dL_law_120 ?_
      refine lv_bipush (v := 20) hx hb dL_law_121 (by decide) ?_
      refine lv_idiv hx hb dL_law_123 (by decide) ?_
      refine lv_bipush (v := 20) hx hb dL_law_124 (by decide) ?_
      refine lv_imul hx hb dL_law_126 ?_
      refine lv_goto (tgt := 132) hx hb dL_law_127 (by decide) ?_
      exact hb132 k65 G65 GS65 hG65 hGS65 hk65 x3 x5 v6 (((x4 &&& 2147483647) / 20) * 20) μ _ _ (by omega) (by omega) _ _ _ hS (lv_sub hl [1, 2, 3, 5, 0] rfl) h
  have hb65 : ∀ (fu : Nat) (x2 : Int32) (x3 : Int32) (μ : Mem) (cells slots : Nat), cells + (fu * 2539 + 0) ≤ 155092 → slots + (fu * 15231 + 0) ≤ 937166 → ∀ (H : Heap) (locs : List Loc) (ls : Array Slot), HS D A (w μ) s.heap H locs → lv_has ls 8 [(0, .ref b), (1, .ref (ad 0)), (2, .int x2), (3, .int x3)] → f_L_law_b65 xs L fu x2 x3 μ = some (1, μ') → W p l e room_1 s m #[.ref b] below meth c H locs cells slots (lw_Z below #[.ref b] s) (F0 m 65 ls []) := by
    intro fu
    induction fu with
    | zero =>
      intro x2 x3 μ cells slots hc hs H locs ls hS hl h
      rw [f_L_law_b65] at h
      cases h
    | succ fuel65 ih65 =>
      intro x2 x3 μ cells slots hc hs H locs ls hS hl h
      rw [f_L_law_b65] at h
      refine lv_iload_n hx hb dL_law_65 rfl (lv_at hl 3 rfl) ?_
      refine lv_bipush (v := 60) hx hb dL_law_66 (by decide) ?_
      refine lv_icmp_ge (tgt := 203) hx hb dL_law_68 (by decide) (fun cc => ?_) (fun cc => ?_)
      · replace h := it h cc
        exact hb203 x2 μ _ _ (by omega) (by omega) _ _ _ hS (lv_sub hl [2] rfl) h
      · replace h := ie h cc
        refine lv_iload_n hx hb dL_law_71 rfl (lv_at hl 2 rfl) ?_
        refine lv_if_eq (tgt := 203) hx hb dL_law_72 (by decide) (fun cc => ?_) (fun cc => ?_)
        · replace h := it h cc
          exact hb203 x2 μ _ _ (by omega) (by omega) _ _ _ hS (lv_sub hl [2] rfl) h
        · replace h := ie h cc
          refine lv_aload_n hx hb dL_law_75 rfl (lv_at hl 0 rfl) ?_
          refine lv_iconst (v := 2) hx hb dL_law_76 (by decide) ?_
          refine lv_iload_n hx hb dL_law_77 rfl (lv_at hl 3 rfl) ?_
          refine lv_imul hx hb dL_law_78 ?_
          obtain ⟨v4, ev4, h⟩ := ob h
          refine r_cim hS (r_runSm (mc := 0) (ms := 0) (As := [.ref b, .int (2 * x3)]) (rest := []) X1 hS (c_L_lot l (w := w) (ad := ad) (μ := μ) (D := D) (cI := cI) (cG := cG) (cL := cL) hbA hE ev4) (va_cwS 2 X1.1.2.2.2.2 gL_law_L_lot rfl rfl rfl (by decide +kernel) ⟨Nat.le_of_ble_eq_true rfl, Nat.le_of_ble_eq_true rfl⟩) rfl hl.1 rfl (Nat.le_of_ble_eq_true rfl) dL_law_79 ⟨Nat.le_trans (m := 155092) (by omega) (Nat.le_of_ble_eq_true rfl), Nat.le_trans (m := 937166) (by omega) (Nat.le_of_ble_eq_true rfl)⟩) (fun H locs hS => ?_)
          refine lv_istore (lv' := [(4, .int v4), (0, .ref b), (1, .ref (ad 0)), (2, .int x2), (3, .int x3)]) hx hb dL_law_82 hl (by decide) rfl (fun ls hl => ?_)
          refine lv_aload_n hx hb dL_law_84 rfl (lv_at hl 2 rfl) ?_
          obtain ⟨v5, ev5, h⟩ := ob h
          refine r_clm hS (r_runSm (mc := 505) (ms := 3030) (As := [.ref (ad 0)]) (rest := []) X hS (c_L_sight l hE hst (w := w) (ad := ad) (μ := μ) (D := D) (cI := cI) (cG := cG) (cL := cL) hw0 ev5) (va_cwS 1 X.1.2.2.2.2 gL_law_L_sight rfl rfl rfl (by decide +kernel) ⟨Nat.le_of_ble_eq_true rfl, Nat.le_of_ble_eq_true rfl⟩) rfl hl.1 rfl (Nat.le_of_ble_eq_true rfl) dL_law_85 ⟨Nat.le_trans (m := 155092) (by omega) (Nat.le_of_ble_eq_true rfl), Nat.le_trans (m := 937166) (by omega) (Nat.le_of_ble_eq_true rfl)⟩) (fun H locs hS => ?_)
          refine lv_lstore (lv' := [(5, .long v5), (4, .int v4), (0, .ref b), (1, .ref (ad 0)), (2, .int x2), (3, .int x3)]) hx hb dL_law_88 hl (by decide) rfl (fun ls hl => ?_)
          refine lv_iload_n hx hb dL_law_90 rfl (lv_at hl 5 rfl) ?_
          refine lv_bipush (v := 8) hx hb dL_law_91 (by decide) ?_
          refine lv_icmp_ge (tgt := 100) hx hb dL_law_93 (by decide) (fun cc => ?_) (fun cc => ?_)
          · replace h := it h cc
            refine lv_iload hx hb dL_law_100 (lv_at hl 1 rfl) ?_
            exact hb102 (f_L_law_b65 xs L fuel65) (fuel65 * 2539 + 0) (fuel65 * 15231 + 0) (by omega) (by omega) (fun x2 x3 μ cells slots hc hs => ih65 x2 x3 μ cells slots (by omega) (by omega)) x3 v4 v5 v4 μ _ _ (by omega) (by omega) _ _ _ hS (lv_sub hl [2, 3, 5, 1, 0] rfl) h
          · replace h := ie h cc
            refine lv_iconst (v := 0) hx hb dL_law_96 (by decide) ?_
            refine lv_goto (tgt := 102) hx hb dL_law_97 (by decide) ?_
            exact hb102 (f_L_law_b65 xs L fuel65) (fuel65 * 2539 + 0) (fuel65 * 15231 + 0) (by omega) (by omega) (fun x2 x3 μ cells slots hc hs => ih65 x2 x3 μ cells slots (by omega) (by omega)) x3 v4 v5 0 μ _ _ (by omega) (by omega) _ _ _ hS (lv_sub hl [2, 3, 5, 1, 0] rfl) h
  have hb62 : ∀ (s0 : Int32) (μ : Mem) (cells slots : Nat), cells + 154879 ≤ 155092 → slots + 929091 ≤ 937166 → ∀ (H : Heap) (locs : List Loc) (ls : Array Slot), HS D A (w μ) s.heap H locs → lv_has ls 8 [(0, .ref b), (1, .ref (ad 0))] → f_L_law_b62 xs L s0 μ = some (1, μ') → W p l e room_1 s m #[.ref b] below meth c H locs cells slots (lw_Z below #[.ref b] s) (F0 m 62 ls [.int s0]) := by
    intro s0 μ cells slots hc hs H locs ls hS hl h
    unfold f_L_law_b62 at h
    refine lv_istore_n (lv' := [(2, .int s0), (0, .ref b), (1, .ref (ad 0))]) hx hb dL_law_62 rfl hl (by decide) rfl (fun ls hl => ?_)
    refine lv_iconst (v := 0) hx hb dL_law_63 (by decide) ?_
    refine lv_istore_n (lv' := [(3, .int 0), (2, .int s0), (0, .ref b), (1, .ref (ad 0))]) hx hb dL_law_64 rfl hl (by decide) rfl (fun ls hl => ?_)
    exact hb65 61 s0 0 μ _ _ (by omega) (by omega) _ _ _ hS (lv_sub hl [2, 3, 1, 0] rfl) h
  have hb61 : ∀  (μ : Mem) (cells slots : Nat), cells + 154879 ≤ 155092 → slots + 929091 ≤ 937166 → ∀ (H : Heap) (locs : List Loc) (ls : Array Slot), HS D A (w μ) s.heap H locs → lv_has ls 8 [(0, .ref b), (1, .ref (ad 0))] → f_L_law_b61 xs L μ = some (1, μ') → W p l e room_1 s m #[.ref b] below meth c H locs cells slots (lw_Z below #[.ref b] s) (F0 m 61 ls []) := by
    intro μ cells slots hc hs H locs ls hS hl h
    unfold f_L_law_b61 at h
    refine lv_iconst (v := 0) hx hb dL_law_61 (by decide) ?_
    exact hb62 0 μ _ _ (by omega) (by omega) _ _ _ hS (lv_sub hl [0, 1] rfl) h
  intro cells slots hc hs H locs ls hS hl
  unfold f_L_law at h
  refine lv_aload_n hx hb dL_law_8 rfl (lv_at hl 0 rfl) ?_
  obtain ⟨v1, μ2, ev1, h⟩ := ob2 h
  refine r_cim hS (r_runSmN (mc := 1) (ms := 3) (As := [.ref (ad 0)]) (rest := []) X hS hz (c_L_beds_w l hE hst hA hw (μ := μ) (D := D) (cI := cI) (cG := cG) (cL := cL) ev1) (va_cwS 1 X.1.2.2.2.2 gL_law_L_beds rfl rfl rfl (by decide +kernel) ⟨Nat.le_of_ble_eq_true rfl, Nat.le_of_ble_eq_true rfl⟩) rfl hl.1 rfl (Nat.le_of_ble_eq_true rfl) dL_law_9 ⟨Nat.le_trans (m := 155092) (by omega) (Nat.le_of_ble_eq_true rfl), Nat.le_trans (m := 937166) (by omega) (Nat.le_of_ble_eq_true rfl)⟩) (fun H locs hS => ?_)
  refine lv_if_eq (tgt := 61) hx hb dL_law_12 (by decide) (fun cc => ?_) (fun cc => ?_)
  · replace h := it h cc
    exact hb61 μ2 _ _ (by omega) (by omega) _ _ _ hS (lv_sub hl [1, 0] rfl) h
  · replace h := ie h cc
    refine lv_aload_n hx hb dL_law_15 rfl (lv_at hl 0 rfl) ?_
    obtain ⟨v15, ev15, h⟩ := ob h
    refine r_cim hS (r_runSm (mc := 10) (ms := 60) (As := [.ref (ad 0)]) (rest := []) X hS (c_L_roots l hE hst (w := w) (ad := ad) (μ := μ2) (D := D) (cI := cI) (cG := cG) (cL := cL) hw0 ev15) (va_cwS 1 X.1.2.2.2.2 gL_law_L_roots rfl rfl rfl (by decide +kernel) ⟨Nat.le_of_ble_eq_true rfl, Nat.le_of_ble_eq_true rfl⟩) rfl hl.1 rfl (Nat.le_of_ble_eq_true rfl) dL_law_16 ⟨Nat.le_trans (m := 155092) (by omega) (Nat.le_of_ble_eq_true rfl), Nat.le_trans (m := 937166) (by omega) (Nat.le_of_ble_eq_true rfl)⟩) (fun H locs hS => ?_)
    refine lv_if_eq (tgt := 61) hx hb dL_law_19 (by decide) (fun cc => ?_) (fun cc => ?_)
    · replace h := it h cc
      exact hb61 μ2 _ _ (by omega) (by omega) _ _ _ hS (lv_sub hl [1, 0] rfl) h
    · replace h := ie h cc
      refine lv_aload_n hx hb dL_law_22 rfl (lv_at hl 0 rfl) ?_
      obtain ⟨v16, ev16, h⟩ := ob h
      refine r_cim hS (r_runSm (mc := 0) (ms := 0) (As := [.ref (ad 0)]) (rest := []) X hS (c_L_entries l hE hst (w := w) (ad := ad) (μ := μ2) (D := D) (cI := cI) (cG := cG) (cL := cL) hw0 ev16) (va_cwS 1 X.1.2.2.2.2 gL_law_L_entries rfl rfl rfl (by decide +kernel) ⟨Nat.le_of_ble_eq_true rfl, Nat.le_of_ble_eq_true rfl⟩) rfl hl.1 rfl (Nat.le_of_ble_eq_true rfl) dL_law_23 ⟨Nat.le_trans (m := 155092) (by omega) (Nat.le_of_ble_eq_true rfl), Nat.le_trans (m := 937166) (by omega) (Nat.le_of_ble_eq_true rfl)⟩) (fun H locs hS => ?_)
      refine lv_if_eq (tgt := 61) hx hb dL_law_26 (by decide) (fun cc => ?_) (fun cc => ?_)
      · replace h := it h cc
        exact hb61 μ2 _ _ (by omega) (by omega) _ _ _ hS (lv_sub hl [1, 0] rfl) h
      · replace h := ie h cc
        refine lv_aload_n hx hb dL_law_29 rfl (lv_at hl 0 rfl) ?_
        obtain ⟨v17, μ18, ev17, h⟩ := ob2 h
        refine r_cim hS (r_runSW (mc := 1) (ms := 6) (As := [.ref (ad 0)]) (rest := []) X hS (c_L_undo l hE hst (w := w) (ad := ad) (μ := μ2) (D := D) (cI := cI) (cG := cG) (cL := cL) hw0 ev17) (vx_cwSW (hh := [(0, 4, 5, 17)]) 1 X.1.2.2.2.2 gL_law_L_undo rfl rfl rfl (by decide +kernel) ⟨Nat.le_of_ble_eq_true rfl, Nat.le_of_ble_eq_true rfl⟩) rfl hl.1 rfl (Nat.le_of_ble_eq_true rfl) dL_law_30 ⟨Nat.le_trans (m := 155092) (by omega) (Nat.le_of_ble_eq_true rfl), Nat.le_trans (m := 937166) (by omega) (Nat.le_of_ble_eq_true rfl)⟩) (fun H locs hS => ?_)
        refine lv_sipush (v := (-2902)) hx hb dL_law_33 (by decide) ?_
        refine lv_icmp_ne (tgt := 61) hx hb dL_law_36 (by decide) (fun cc => ?_) (fun cc => ?_)
        · replace h := ie h cc
          exact hb61 μ18 _ _ (by omega) (by omega) _ _ _ hS (lv_sub hl [1, 0] rfl) h
        · replace h := it h cc
          refine lv_aload_n hx hb dL_law_39 rfl (lv_at hl 0 rfl) ?_
          obtain ⟨v19, μ20, ev19, h⟩ := ob2 h
          refine r_cim hS (r_runSW (mc := 1) (ms := 6) (As := [.ref (ad 0)]) (rest := []) X hS (c_L_abort l hE hst (w := w) (ad := ad) (μ := μ18) (D := D) (cI := cI) (cG := cG) (cL := cL) hw0 ev19) (vx_cwSW (hh := [(0, 4, 5, 17)]) 1 X.1.2.2.2.2 gL_law_L_abort rfl rfl rfl (by decide +kernel) ⟨Nat.le_of_ble_eq_true rfl, Nat.le_of_ble_eq_true rfl⟩) rfl hl.1 rfl (Nat.le_of_ble_eq_true rfl) dL_law_40 ⟨Nat.le_trans (m := 155092) (by omega) (Nat.le_of_ble_eq_true rfl), Nat.le_trans (m := 937166) (by omega) (Nat.le_of_ble_eq_true rfl)⟩) (fun H locs hS => ?_)
          refine lv_sipush (v := (-2902)) hx hb dL_law_43 (by decide) ?_
          refine lv_icmp_ne (tgt := 61) hx hb dL_law_46 (by decide) (fun cc => ?_) (fun cc => ?_)
          · replace h := ie h cc
            exact hb61 μ20 _ _ (by omega) (by omega) _ _ _ hS (lv_sub hl [1, 0] rfl) h
          · replace h := it h cc
            refine lv_aload_n hx hb dL_law_49 rfl (lv_at hl 0 rfl) ?_
            obtain ⟨v21, μ22, ev21, h⟩ := ob2 h
            refine r_ci hS (r_runV (As := []) (rest := []) X hS (c_X6_begin l hE (w := w) (ad := ad) (μ := μ20) (D := D) (cI := cI) (cG := cG) (cL := cL) hw0 ev21) (cwV 0 X.1.2.2.2.2 gL_law_X6_begin rfl rfl rfl (by decide +kernel) ⟨Nat.le_of_ble_eq_true rfl, Nat.le_of_ble_eq_true rfl⟩) (q0 := 0) (ci := 4) rfl (hw0.1 μ20).1 rfl hl.1 rfl (Nat.le_of_ble_eq_true rfl) dL_law_50 ⟨Nat.le_trans (m := 155092) (by omega) (Nat.le_of_ble_eq_true rfl), Nat.le_trans (m := 937166) (by omega) (Nat.le_of_ble_eq_true rfl)⟩) (fun H locs hS => ?_)
            refine lv_iconst (v := 1) hx hb dL_law_53 (by decide) ?_
            refine lv_icmp_ne (tgt := 61) hx hb dL_law_54 (by decide) (fun cc => ?_) (fun cc => ?_)
            · replace h := ie h cc
              exact hb61 μ22 _ _ (by omega) (by omega) _ _ _ hS (lv_sub hl [1, 0] rfl) h
            · replace h := it h cc
              refine lv_iconst (v := 1) hx hb dL_law_57 (by decide) ?_
              refine lv_goto (tgt := 62) hx hb dL_law_58 (by decide) ?_
              exact hb62 1 μ22 _ _ (by omega) (by omega) _ _ _ hS (lv_sub hl [1, 0] rfl) h
