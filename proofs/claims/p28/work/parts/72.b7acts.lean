def f_L_acts_b825 (q0 : Nat) (s0 : Int32) (μ : Mem) : Option (Int32 × Mem) := (zr s0).bind (fun v7 => (some (v7, μ)))
def f_L_acts_b824 (q0 : Nat)  (μ : Mem) : Option (Int32 × Mem) := f_L_acts_b825 q0 0 μ
def f_L_acts_b738 (q0 : Nat) (s0 : Int32) (μ : Mem) : Option (Int32 × Mem) := (zr s0).bind (fun v22 => (some (v22, μ)))
def f_L_acts_b733 (q0 : Nat)  (μ : Mem) : Option (Int32 × Mem) := f_L_acts_b738 q0 1 μ
def f_L_acts_b737 (q0 : Nat)  (μ : Mem) : Option (Int32 × Mem) := f_L_acts_b738 q0 0 μ
def f_L_acts_b637 (q0 : Nat) (s0 : Int32) (μ : Mem) : Option (Int32 × Mem) := (zr s0).bind (fun v34 => (some (v34, μ)))
def f_L_acts_b636 (q0 : Nat)  (μ : Mem) : Option (Int32 × Mem) := f_L_acts_b637 q0 0 μ
def f_L_acts_b568 (q0 : Nat) (x6 : Int32) (x7 : Int32) (x8 : Int32) (s0 : Int32) (μ : Mem) : Option (Int32 × Mem) := bn2 (f_L_close q0 x6 μ) (fun v32 μ33 => (if v32 = (-2902) then (if x8 = 0 then f_L_acts_b637 q0 1 μ33 else f_L_acts_b637 q0 0 μ33) else (if x8 = 0 then f_L_acts_b636 q0 μ33 else (f_X6_whole q0 3 μ33).bind (fun v35 => (if v32 = (v35 - x7) then (if v32 < 0 then f_L_acts_b636 q0 μ33 else (f_X6_whole q0 4 μ33).bind (fun v36 => (if v36 = s0 then f_L_acts_b637 q0 1 μ33 else f_L_acts_b636 q0 μ33))) else f_L_acts_b636 q0 μ33)))))
def f_L_acts_b551 (q0 : Nat) (x6 : Int32) (x7 : Int32) (s0 : Int32) (μ : Mem) : Option (Int32 × Mem) := (if s0 = 0 then f_L_acts_b568 q0 x6 x7 s0 0 μ else (f_X6_neededWithout q0 x6 μ).bind (fun v37 => f_L_acts_b568 q0 x6 x7 s0 v37 μ))
def f_L_acts_b512 (q0 : Nat) (s0 : Int32) (μ : Mem) : Option (Int32 × Mem) := (zr s0).bind (fun v44 => (some (v44, μ)))
def f_L_acts_b511 (q0 : Nat)  (μ : Mem) : Option (Int32 × Mem) := f_L_acts_b512 q0 0 μ
def f_L_acts_b406 (q0 : Nat) (s0 : Int32) (μ : Mem) : Option (Int32 × Mem) := (zr s0).bind (fun v53 => (some (v53, μ)))
def f_L_acts_b405 (q0 : Nat)  (μ : Mem) : Option (Int32 × Mem) := f_L_acts_b406 q0 0 μ
def f_L_acts_b314 (q0 : Nat) (s0 : Int32) (μ : Mem) : Option (Int32 × Mem) := (zr s0).bind (fun v63 => (some (v63, μ)))
def f_L_acts_b313 (q0 : Nat)  (μ : Mem) : Option (Int32 × Mem) := f_L_acts_b314 q0 0 μ
def f_L_acts_b240 (q0 : Nat) (x2 : Int32) (x4 : Int32) (s0 : Int32) (μ : Mem) : Option (Int32 × Mem) := bn2 (f_L_commits q0 s0 (x2 >>> (3 &&& 31)) μ) (fun v59 μ60 => (f_X6_root q0 1 3 μ60).bind (fun v61 => (f_X6_root q0 v61 0 μ60).bind (fun v62 => (if v59 = 0 then f_L_acts_b313 q0 μ60 else bn2 (f_X6_begin q0 μ60) (fun v64 μ65 => (if v64 = v62 then bn2 (f_L_begin q0 μ65) (fun v66 μ67 => (if v66 = (-2902) then (f_L_drafted q0 x4 μ67).bind (fun v68 => (f_X6_get q0 x4 μ67).bind (fun v69 => (if v68 = v69 then (f_X6_whole q0 9 μ67).bind (fun v70 => (if v70 = 0 then f_L_acts_b314 q0 1 μ67 else f_L_acts_b313 q0 μ67)) else f_L_acts_b313 q0 μ67))) else f_L_acts_b313 q0 μ67)) else f_L_acts_b313 q0 μ65))))))
def f_L_acts_b204 (q0 : Nat) (s0 : Int32) (μ : Mem) : Option (Int32 × Mem) := (zr s0).bind (fun v76 => (some (v76, μ)))
def f_L_acts_b203 (q0 : Nat)  (μ : Mem) : Option (Int32 × Mem) := f_L_acts_b204 q0 0 μ
def f_L_acts_b199 (q0 : Nat)  (μ : Mem) : Option (Int32 × Mem) := f_L_acts_b204 q0 1 μ
def f_L_acts_b138 (q0 : Nat)  (μ : Mem) : Option (Int32 × Mem) := f_L_acts_b204 q0 0 μ
def f_L_acts_b45 (q0 : Nat) (x2 : Int32) (x3 : Int32) (x4 : Int32) (s0 : Int32) (μ : Mem) : Option (Int32 × Mem) := (if 10 ≤ x3 then (if 12 ≤ x3 then (if 15 ≤ x3 then (if x3 = 15 then (f_X6_whole q0 9 μ).bind (fun v49 => (f_X6_whole q0 0 μ).bind (fun v50 => bn2 (f_L_abort q0 μ) (fun v51 μ52 => (if v51 = (-2902) then (if s0 = 0 then f_L_acts_b406 q0 1 μ52 else f_L_acts_b406 q0 0 μ52) else (if v51 = v49 then (f_X6_whole q0 0 μ52).bind (fun v54 => (if v54 = (v50 + v49) then (f_X6_whole q0 9 μ52).bind (fun v55 => (if v55 = 0 then (f_X6_whole q0 8 μ52).bind (fun v56 => (if v56 = 0 then f_L_acts_b406 q0 1 μ52 else f_L_acts_b405 q0 μ52)) else f_L_acts_b405 q0 μ52)) else f_L_acts_b405 q0 μ52)) else f_L_acts_b405 q0 μ52))))) else (if x3 = 16 then (f_X6_whole q0 7 μ).bind (fun v38 => bn2 (f_L_open q0 μ) (fun v39 μ40 => (if v39 = (-2902) then (if v38 = 4 then f_L_acts_b512 q0 1 μ40 else f_L_acts_b512 q0 0 μ40) else (f_X6_reader q0 v39 0 μ40).bind (fun v41 => (f_X6_root q0 1 3 μ40).bind (fun v42 => (f_X6_root q0 v42 0 μ40).bind (fun v43 => (if v41 = v43 then (f_X6_reader q0 v39 2 μ40).bind (fun v45 => (f_X6_whole q0 5 μ40).bind (fun v46 => (if v45 = v46 then (f_X6_whole q0 7 μ40).bind (fun v47 => (if v47 = (v38 + 1) then (f_X6_changedSince q0 v39 μ40).bind (fun v48 => (if v48 = 0 then f_L_acts_b512 q0 1 μ40 else f_L_acts_b511 q0 μ40)) else f_L_acts_b511 q0 μ40)) else f_L_acts_b511 q0 μ40))) else f_L_acts_b511 q0 μ40))))))) else (if x3 = 17 then (f_L_low x2 4).bind (fun v29 => (f_X6_whole q0 3 μ).bind (fun v30 => (f_X6_reader q0 v29 0 μ).bind (fun v31 => (if v31 = (-1000) then f_L_acts_b551 q0 v29 v30 0 μ else f_L_acts_b551 q0 v29 v30 1 μ)))) else (if x3 = 18 then (f_L_sight q0 μ).bind (fun v17 => (f_X6_whole q0 9 μ).bind (fun v18 => (f_L_drafted q0 x4 μ).bind (fun v19 => bn2 (f_L_put q0 x4 77 μ) (fun v20 μ21 => (if v20 = (-2902) then f_L_acts_b733 q0 μ21 else (f_L_sight q0 μ21).bind (fun v23 => (if (lg_cmp v23 v17) = 0 then bn2 (f_X6_undo q0 μ21) (fun v24 μ25 => (if v24 < 0 then f_L_acts_b737 q0 μ25 else (f_L_sight q0 μ25).bind (fun v26 => (if (lg_cmp v26 v17) = 0 then (f_X6_whole q0 9 μ25).bind (fun v27 => (if v27 = v18 then (f_L_drafted q0 x4 μ25).bind (fun v28 => (if v28 = v19 then f_L_acts_b733 q0 μ25 else f_L_acts_b737 q0 μ25)) else f_L_acts_b737 q0 μ25)) else f_L_acts_b737 q0 μ25)))) else f_L_acts_b737 q0 μ21))))))) else bn2 (f_L_put q0 100 0 μ) (fun v5 μ6 => (if v5 = (-2901) then bn2 (f_L_remove q0 (-1) μ6) (fun v8 μ9 => (if v8 = (-2901) then bn2 (f_L_commit q0 4 μ9) (fun v10 μ11 => (if v10 = (-2901) then bn2 (f_L_close q0 4 μ11) (fun v12 μ13 => (if v12 = (-2903) then (f_L_read q0 (-1) 0 μ13).bind (fun v14 => (if v14 = (-2903) then (f_L_since q0 4 μ13).bind (fun v15 => (if v15 = (-2903) then (f_L_reason q0 100 μ13).bind (fun v16 => (if v16 = (-2901) then f_L_acts_b825 q0 1 μ13 else f_L_acts_b824 q0 μ13)) else f_L_acts_b824 q0 μ13)) else f_L_acts_b824 q0 μ13)) else f_L_acts_b824 q0 μ13)) else f_L_acts_b824 q0 μ11)) else f_L_acts_b824 q0 μ9)) else f_L_acts_b824 q0 μ6)))))) else (f_X6_root q0 1 3 μ).bind (fun v57 => (f_X6_root q0 v57 0 μ).bind (fun v58 => (if x3 = 12 then (f_L_low x2 4).bind (fun v71 => f_L_acts_b240 q0 x2 x4 v71 μ) else f_L_acts_b240 q0 x2 x4 3 μ)))) else (f_L_drafted q0 x4 μ).bind (fun v72 => (f_X6_whole q0 9 μ).bind (fun v73 => bn2 (f_L_remove q0 x4 μ) (fun v74 μ75 => (if v74 = (-2902) then (f_L_drafted q0 x4 μ75).bind (fun v80 => (if v80 = v72 then (f_X6_whole q0 9 μ75).bind (fun v81 => (if v81 = v73 then f_L_acts_b204 q0 1 μ75 else f_L_acts_b138 q0 μ75)) else f_L_acts_b138 q0 μ75)) else (if v74 = v72 then (if v72 = (-1000) then f_L_acts_b203 q0 μ75 else (f_X6_drafted q0 x4 μ75).bind (fun v77 => (if v77 = (-1000) then (f_X6_whole q0 9 μ75).bind (fun v78 => (if (v73 + 2) < v78 then f_L_acts_b203 q0 μ75 else (f_X6_whole q0 9 μ75).bind (fun v79 => (if v73 ≤ v79 then f_L_acts_b199 q0 μ75 else (if v73 ≤ 1 then f_L_acts_b203 q0 μ75 else f_L_acts_b199 q0 μ75))))) else f_L_acts_b203 q0 μ75))) else f_L_acts_b203 q0 μ75)))))) else (f_L_low (x2 >>> (7 &&& 31)) 1999).bind (fun v82 => bn2 (f_L_puts q0 x4 (v82 - 999) μ) (fun v83 μ84 => (zr v83).bind (fun v85 => (some (v85, μ84))))))
def f_L_acts_b25 (q0 : Nat) (x2 : Int32) (x3 : Int32) (s0 : Int32) (s1 : Int32) (μ : Mem) : Option (Int32 × Mem) := (f_L_low s1 s0).bind (fun v3 => (f_X6_whole q0 8 μ).bind (fun v4 => (if v4 = 1 then f_L_acts_b45 q0 x2 x3 v3 1 μ else f_L_acts_b45 q0 x2 x3 v3 0 μ)))
def f_L_acts (q0 : Nat) (a1 : Int32) (a2 : Int32) (μ : Mem) : Option (Int32 × Mem) := (f_L_low a1 20).bind (fun v1 => (f_L_low (a1 >>> (5 &&& 31)) 4).bind (fun v2 => (if v2 = 0 then f_L_acts_b25 q0 a2 v1 100 a2 μ else f_L_acts_b25 q0 a2 v1 26 a2 μ)))
set_option maxHeartbeats 4000000 in
set_option maxRecDepth 100000 in
theorem c_L_acts (l : Launch) {D : va_G} {cI cG cL : ClassId} {A : Nat → Prop} {tC tS : Nat} {adE adK adV : Nat → Nat} (hE : EnOK (ENV tC tS adE adK adV A) A) (hst : l.stackTraces = false) {w : Mem → va_W} {ad : Nat → Nat} {q0 : Nat} {a1 : Int32} {a2 : Int32} {μ : Mem} {r : Int32} {μ' : Mem} (hw0 : PGAt cI cG adE w ad q0) (h : f_L_acts q0 a1 a2 μ = some (r, μ')) : Met l yL_acts wsL_acts (rmc 10 1518 9108 202) (WPre D (tyl cI cG cL) A (ENV tC tS adE adK adV A) (w μ) [.ref (ad q0), .int a1, .int a2]) (PI D A (w μ') r) 1518 9108 A := by
  refine met_startM (cc := cL_acts) (nL := 11) (ret := (some .boolean)) (own := RL) hE (by decide) rfl rfl (Nat.le_of_ble_eq_true rfl) (fun p e s m args below meth c ls X hS hl hr hlk => ?_)
  have hx := X.1.1
  have hb := X.1.2.1
  replace hl : lv_has ls 11 [(0, .ref (ad q0)), (1, .int a1), (2, .int a2)] := hl
  have hb825 : ∀ (s0 : Int32) (μ : Mem) (cells slots : Nat), cells + 0 ≤ 1518 → slots + 0 ≤ 9108 → ∀ (H : Heap) (locs : List Loc) (ls : Array Slot), HS D A (w μ) s.heap H locs → lv_has ls 11 [] → f_L_acts_b825 q0 s0 μ = some (r, μ') → W p l e (headSpec wsL_acts (rmc 10 1518 9108 202)).room s m args below meth c H locs cells slots (MQ below (PI D A (w μ') r) args s 1518 9108 A) (F0 m 825 ls [.int s0]) := by
    intro s0 μ cells slots hc hs H locs ls hS hl h
    unfold f_L_acts_b825 at h
    obtain ⟨v7, ev7, h⟩ := ob h
    obtain ⟨ezv7, eov7⟩ := zr_ok ev7
    rw [ezv7]
    obtain ⟨rfl, rfl⟩ := pr2 h
    exact r_zretM X hS hr hlk eov7 (by omega) (by omega) dL_acts_825
  have hb824 : ∀  (μ : Mem) (cells slots : Nat), cells + 0 ≤ 1518 → slots + 0 ≤ 9108 → ∀ (H : Heap) (locs : List Loc) (ls : Array Slot), HS D A (w μ) s.heap H locs → lv_has ls 11 [] → f_L_acts_b824 q0 μ = some (r, μ') → W p l e (headSpec wsL_acts (rmc 10 1518 9108 202)).room s m args below meth c H locs cells slots (MQ below (PI D A (w μ') r) args s 1518 9108 A) (F0 m 824 ls []) := by
    intro μ cells slots hc hs H locs ls hS hl h
    unfold f_L_acts_b824 at h
    refine lv_iconst (v := 0) hx hb dL_acts_824 (by decide) ?_
    exact hb825 0 μ _ _ (by omega) (by omega) _ _ _ hS (lv_sub hl [] rfl) h
  have hb738 : ∀ (s0 : Int32) (μ : Mem) (cells slots : Nat), cells + 0 ≤ 1518 → slots + 0 ≤ 9108 → ∀ (H : Heap) (locs : List Loc) (ls : Array Slot), HS D A (w μ) s.heap H locs → lv_has ls 11 [] → f_L_acts_b738 q0 s0 μ = some (r, μ') → W p l e (headSpec wsL_acts (rmc 10 1518 9108 202)).room s m args below meth c H locs cells slots (MQ below (PI D A (w μ') r) args s 1518 9108 A) (F0 m 738 ls [.int s0]) := by
    intro s0 μ cells slots hc hs H locs ls hS hl h
    unfold f_L_acts_b738 at h
    obtain ⟨v22, ev22, h⟩ := ob h
    obtain ⟨ezv22, eov22⟩ := zr_ok ev22
    rw [ezv22]
    obtain ⟨rfl, rfl⟩ := pr2 h
    exact r_zretM X hS hr hlk eov22 (by omega) (by omega) dL_acts_738
  have hb733 : ∀  (μ : Mem) (cells slots : Nat), cells + 0 ≤ 1518 → slots + 0 ≤ 9108 → ∀ (H : Heap) (locs : List Loc) (ls : Array Slot), HS D A (w μ) s.heap H locs → lv_has ls 11 [] → f_L_acts_b733 q0 μ = some (r, μ') → W p l e (headSpec wsL_acts (rmc 10 1518 9108 202)).room s m args below meth c H locs cells slots (MQ below (PI D A (w μ') r) args s 1518 9108 A) (F0 m 733 ls []) := by
    intro μ cells slots hc hs H locs ls hS hl h
    unfold f_L_acts_b733 at h
    refine lv_iconst (v := 1) hx hb dL_acts_733 (by decide) ?_
    refine lv_goto (tgt := 738) hx hb dL_acts_734 (by decide) ?_
    exact hb738 1 μ _ _ (by omega) (by omega) _ _ _ hS (lv_sub hl [] rfl) h
  have hb737 : ∀  (μ : Mem) (cells slots : Nat), cells + 0 ≤ 1518 → slots + 0 ≤ 9108 → ∀ (H : Heap) (locs : List Loc) (ls : Array Slot), HS D A (w μ) s.heap H locs → lv_has ls 11 [] → f_L_acts_b737 q0 μ = some (r, μ') → W p l e (headSpec wsL_acts (rmc 10 1518 9108 202)).room s m args below meth c H locs cells slots (MQ below (PI D A (w μ') r) args s 1518 9108 A) (F0 m 737 ls []) := by
    intro μ cells slots hc hs H locs ls hS hl h
    unfold f_L_acts_b737 at h
    refine lv_iconst (v := 0) hx hb dL_acts_737 (by decide) ?_
    exact hb738 0 μ _ _ (by omega) (by omega) _ _ _ hS (lv_sub hl [] rfl) h
  have hb637 : ∀ (s0 : Int32) (μ : Mem) (cells slots : Nat), cells + 0 ≤ 1518 → slots + 0 ≤ 9108 → ∀ (H : Heap) (locs : List Loc) (ls : Array Slot), HS D A (w μ) s.heap H locs → lv_has ls 11 [] → f_L_acts_b637 q0 s0 μ = some (r, μ') → W p l e (headSpec wsL_acts (rmc 10 1518 9108 202)).room s m args below meth c H locs cells slots (MQ below (PI D A (w μ') r) args s 1518 9108 A) (F0 m 637 ls [.int s0]) := by
    intro s0 μ cells slots hc hs H locs ls hS hl h
    unfold f_L_acts_b637 at h
    obtain ⟨v34, ev34, h⟩ := ob h
    obtain ⟨ezv34, eov34⟩ := zr_ok ev34
    rw [ezv34]
    obtain ⟨rfl, rfl⟩ := pr2 h
    exact r_zretM X hS hr hlk eov34 (by omega) (by omega) dL_acts_637
  have hb636 : ∀  (μ : Mem) (cells slots : Nat), cells + 0 ≤ 1518 → slots + 0 ≤ 9108 → ∀ (H : Heap) (locs : List Loc) (ls : Array Slot), HS D A (w μ) s.heap H locs → lv_has ls 11 [] → f_L_acts_b636 q0 μ = some (r, μ') → W p l e (headSpec wsL_acts (rmc 10 1518 9108 202)).room s m args below meth c H locs cells slots (MQ below (PI D A (w μ') r) args s 1518 9108 A) (F0 m 636 ls []) := by
    intro μ cells slots hc hs H locs ls hS hl h
    unfold f_L_acts_b636 at h
    refine lv_iconst (v := 0) hx hb dL_acts_636 (by decide) ?_
    exact hb637 0 μ _ _ (by omega) (by omega) _ _ _ hS (lv_sub hl [] rfl) h
  have hb568 : ∀ (x6 : Int32) (x7 : Int32) (x8 : Int32) (s0 : Int32) (μ : Mem) (cells slots : Nat), cells + 1 ≤ 1518 → slots + 6 ≤ 9108 → ∀ (H : Heap) (locs : List Loc) (ls : Array Slot), HS D A (w μ) s.heap H locs → lv_has ls 11 [(0, .ref (ad q0)), (6, .int x6), (7, .int x7), (8, .int x8)] → f_L_acts_b568 q0 x6 x7 x8 s0 μ = some (r, μ') → W p l e (headSpec wsL_acts (rmc 10 1518 9108 202)).room s m args below meth c H locs cells slots (MQ below (PI D A (w μ') r) args s 1518 9108 A) (F0 m 568 ls [.int s0]) := by
    intro x6 x7 x8 s0 μ cells slots hc hs H locs ls hS hl h
    unfold f_L_acts_b568 at h
    refine lv_istore (lv' := [(9, .int s0), (0, .ref (ad q0)), (6, .int x6), (7, .int x7), (8, .int x8)]) hx hb dL_acts_568 hl (by decide) rfl (fun ls hl => ?_)
    refine lv_aload_n hx hb dL_acts_570 rfl (lv_at hl 1 rfl) ?_
    refine lv_iload hx hb dL_acts_571 (lv_at hl 2 rfl) ?_
    obtain ⟨v32, μ33, ev32, h⟩ := ob2 h
    refine r_cim hS (r_runSW (mc := 1) (ms := 6) (As := [.ref (ad q0), .int x6]) (rest := []) X hS (c_L_close l hE hst (w := w) (ad := ad) (μ := μ) (D := D) (cI := cI) (cG := cG) (cL := cL) hw0 ev32) (vx_cwSW (hh := [(0, 5, 6, 39), (0, 5, 11, 17)]) 2 X.1.2.2.2.2 gL_acts_L_close rfl rfl rfl (by decide +kernel) ⟨Nat.le_of_ble_eq_true rfl, Nat.le_of_ble_eq_true rfl⟩) rfl hl.1 rfl (Nat.le_of_ble_eq_true rfl) dL_acts_573 ⟨Nat.le_trans (m := 1518) (by omega) (Nat.le_of_ble_eq_true rfl), Nat.le_trans (m := 9108) (by omega) (Nat.le_of_ble_eq_true rfl)⟩) (fun H locs hS => ?_)
    refine lv_istore (lv' := [(10, .int v32), (9, .int s0), (0, .ref (ad q0)), (6, .int x6), (7, .int x7), (8, .int x8)]) hx hb dL_acts_576 hl (by decide) rfl (fun ls hl => ?_)
    refine lv_iload hx hb dL_acts_578 (lv_at hl 0 rfl) ?_
    refine lv_sipush (v := (-2902)) hx hb dL_acts_580 (by decide) ?_
    refine lv_icmp_ne (tgt := 599) hx hb dL_acts_583 (by decide) (fun cc => ?_) (fun cc => ?_)
    · replace h := ie h cc
      refine lv_iload hx hb dL_acts_599 (lv_at hl 5 rfl) ?_
      refine lv_if_eq (tgt := 636) hx hb dL_acts_601 (by decide) (fun cc => ?_) (fun cc => ?_)
      · replace h := it h cc
        exact hb636 μ33 _ _ (by omega) (by omega) _ _ _ hS (lv_sub hl [] rfl) h
      · replace h := ie h cc
        refine lv_iload hx hb dL_acts_604 (lv_at hl 0 rfl) ?_
        refine lv_aload_n hx hb dL_acts_606 rfl (lv_at hl 2 rfl) ?_
        refine lv_iconst (v := 3) hx hb dL_acts_607 (by decide) ?_
        obtain ⟨v35, ev35, h⟩ := ob h
        refine r_ci hS (r_runV (As := [.int 3]) (rest := [.int v32]) X hS (c_X6_whole l hE (w := w) (ad := ad) (μ := μ33) (D := D) (cI := cI) (cG := cG) (cL := cL) hw0 ev35) (cwV 1 X.1.2.2.2.2 gL_acts_X6_whole rfl rfl rfl (by decide +kernel) ⟨Nat.le_of_ble_eq_true rfl, Nat.le_of_ble_eq_true rfl⟩) (q0 := q0) (ci := 4) rfl (hw0.1 μ33).1 rfl hl.1 rfl (Nat.le_of_ble_eq_true rfl) dL_acts_608 ⟨Nat.le_trans (m := 1518) (by omega) (Nat.le_of_ble_eq_true rfl), Nat.le_trans (m := 9108) (by omega) (Nat.le_of_ble_eq_true rfl)⟩) (fun H locs hS => ?_)
        refine lv_iload hx hb dL_acts_611 (lv_at hl 4 rfl) ?_
        refine lv_isub hx hb dL_acts_613 ?_
        refine lv_icmp_ne (tgt := 636) hx hb dL_acts_614 (by decide) (fun cc => ?_) (fun cc => ?_)
        · replace h := ie h cc
          exact hb636 μ33 _ _ (by omega) (by omega) _ _ _ hS (lv_sub hl [] rfl) h
        · replace h := it h cc
          refine lv_iload hx hb dL_acts_617 (lv_at hl 0 rfl) ?_
          refine lv_if_lt (tgt := 636) hx hb dL_acts_619 (by decide) (fun cc => ?_) (fun cc => ?_)
          · replace h := it h cc
            exact hb636 μ33 _ _ (by omega) (by omega) _ _ _ hS (lv_sub hl [] rfl) h
          · replace h := ie h cc
            refine lv_aload_n hx hb dL_acts_622 rfl (lv_at hl 2 rfl) ?_
            refine lv_iconst (v := 4) hx hb dL_acts_623 (by decide) ?_
            obtain ⟨v36, ev36, h⟩ := ob h
            refine r_ci hS (r_runV (As := [.int 4]) (rest := []) X hS (c_X6_whole l hE (w := w) (ad := ad) (μ := μ33) (D := D) (cI := cI) (cG := cG) (cL := cL) hw0 ev36) (cwV 1 X.1.2.2.2.2 gL_acts_X6_whole rfl rfl rfl (by decide +kernel) ⟨Nat.le_of_ble_eq_true rfl, Nat.le_of_ble_eq_true rfl⟩) (q0 := q0) (ci := 4) rfl (hw0.1 μ33).1 rfl hl.1 rfl (Nat.le_of_ble_eq_true rfl) dL_acts_624 ⟨Nat.le_trans (m := 1518) (by omega) (Nat.le_of_ble_eq_true rfl), Nat.le_trans (m := 9108) (by omega) (Nat.le_of_ble_eq_true rfl)⟩) (fun H locs hS => ?_)
            refine lv_iload hx hb dL_acts_627 (lv_at hl 1 rfl) ?_
            refine lv_icmp_ne (tgt := 636) hx hb dL_acts_629 (by decide) (fun cc => ?_) (fun cc => ?_)
            · replace h := ie h cc
              exact hb636 μ33 _ _ (by omega) (by omega) _ _ _ hS (lv_sub hl [] rfl) h
            · replace h := it h cc
              refine lv_iconst (v := 1) hx hb dL_acts_632 (by decide) ?_
              refine lv_goto (tgt := 637) hx hb dL_acts_633 (by decide) ?_
              exact hb637 1 μ33 _ _ (by omega) (by omega) _ _ _ hS (lv_sub hl [] rfl) h
    · replace h := it h cc
      refine lv_iload hx hb dL_acts_586 (lv_at hl 5 rfl) ?_
      refine lv_if_ne (tgt := 595) hx hb dL_acts_588 (by decide) (fun cc => ?_) (fun cc => ?_)
      · replace h := ie h cc
        refine lv_iconst (v := 0) hx hb dL_acts_595 (by decide) ?_
        refine lv_goto (tgt := 637) hx hb dL_acts_596 (by decide) ?_
        exact hb637 0 μ33 _ _ (by omega) (by omega) _ _ _ hS (lv_sub hl [] rfl) h
      · replace h := it h cc
        refine lv_iconst (v := 1) hx hb dL_acts_591 (by decide) ?_
        refine lv_goto (tgt := 637) hx hb dL_acts_592 (by decide) ?_
        exact hb637 1 μ33 _ _ (by omega) (by omega) _ _ _ hS (lv_sub hl [] rfl) h
  have hb551 : ∀ (x6 : Int32) (x7 : Int32) (s0 : Int32) (μ : Mem) (cells slots : Nat), cells + 1 ≤ 1518 → slots + 6 ≤ 9108 → ∀ (H : Heap) (locs : List Loc) (ls : Array Slot), HS D A (w μ) s.heap H locs → lv_has ls 11 [(0, .ref (ad q0)), (6, .int x6), (7, .int x7)] → f_L_acts_b551 q0 x6 x7 s0 μ = some (r, μ') → W p l e (headSpec wsL_acts (rmc 10 1518 9108 202)).room s m args below meth c H locs cells slots (MQ below (PI D A (w μ') r) args s 1518 9108 A) (F0 m 551 ls [.int s0]) := by
    intro x6 x7 s0 μ cells slots hc hs H locs ls hS hl h
    unfold f_L_acts_b551 at h
    refine lv_istore (lv' := [(8, .int s0), (0, .ref (ad q0)), (6, .int x6), (7, .int x7)]) hx hb dL_acts_551 hl (by decide) rfl (fun ls hl => ?_)
    refine lv_iload hx hb dL_acts_553 (lv_at hl 0 rfl) ?_
    refine lv_if_eq (tgt := 567) hx hb dL_acts_555 (by decide) (fun cc => ?_) (fun cc => ?_)
    · replace h := it h cc
      refine lv_iconst (v := 0) hx hb dL_acts_567 (by decide) ?_
      exact hb568 x6 x7 s0 0 μ _ _ (by omega) (by omega) _ _ _ hS (lv_sub hl [1, 2, 3, 0] rfl) h
    · replace h := ie h cc
      refine lv_aload_n hx hb dL_acts_558 rfl (lv_at hl 1 rfl) ?_
      refine lv_iload hx hb dL_acts_559 (lv_at hl 2 rfl) ?_
      obtain ⟨v37, ev37, h⟩ := ob h
      refine r_ci hS (r_runV (As := [.int x6]) (rest := []) X hS (c_X6_neededWithout l hE (w := w) (ad := ad) (μ := μ) (D := D) (cI := cI) (cG := cG) (cL := cL) hw0 ev37) (cwV 1 X.1.2.2.2.2 gL_acts_X6_neededWithout rfl rfl rfl (by decide +kernel) ⟨Nat.le_of_ble_eq_true rfl, Nat.le_of_ble_eq_true rfl⟩) (q0 := q0) (ci := 4) rfl (hw0.1 μ).1 rfl hl.1 rfl (Nat.le_of_ble_eq_true rfl) dL_acts_561 ⟨Nat.le_trans (m := 1518) (by omega) (Nat.le_of_ble_eq_true rfl), Nat.le_trans (m := 9108) (by omega) (Nat.le_of_ble_eq_true rfl)⟩) (fun H locs hS => ?_)
      refine lv_goto (tgt := 568) hx hb dL_acts_564 (by decide) ?_
      exact hb568 x6 x7 s0 v37 μ _ _ (by omega) (by omega) _ _ _ hS (lv_sub hl [1, 2, 3, 0] rfl) h
  have hb512 : ∀ (s0 : Int32) (μ : Mem) (cells slots : Nat), cells + 0 ≤ 1518 → slots + 0 ≤ 9108 → ∀ (H : Heap) (locs : List Loc) (ls : Array Slot), HS D A (w μ) s.heap H locs → lv_has ls 11 [] → f_L_acts_b512 q0 s0 μ = some (r, μ') → W p l e (headSpec wsL_acts (rmc 10 1518 9108 202)).room s m args below meth c H locs cells slots (MQ below (PI D A (w μ') r) args s 1518 9108 A) (F0 m 512 ls [.int s0]) := by
    intro s0 μ cells slots hc hs H locs ls hS hl h
    unfold f_L_acts_b512 at h
    obtain ⟨v44, ev44, h⟩ := ob h
    obtain ⟨ezv44, eov44⟩ := zr_ok ev44
    rw [ezv44]
    obtain ⟨rfl, rfl⟩ := pr2 h
    exact r_zretM X hS hr hlk eov44 (by omega) (by omega) dL_acts_512
  have hb511 : ∀  (μ : Mem) (cells slots : Nat), cells + 0 ≤ 1518 → slots + 0 ≤ 9108 → ∀ (H : Heap) (locs : List Loc) (ls : Array Slot), HS D A (w μ) s.heap H locs → lv_has ls 11 [] → f_L_acts_b511 q0 μ = some (r, μ') → W p l e (headSpec wsL_acts (rmc 10 1518 9108 202)).room s m args below meth c H locs cells slots (MQ below (PI D A (w μ') r) args s 1518 9108 A) (F0 m 511 ls []) := by
    intro μ cells slots hc hs H locs ls hS hl h
    unfold f_L_acts_b511 at h
    refine lv_iconst (v := 0) hx hb dL_acts_511 (by decide) ?_
    exact hb512 0 μ _ _ (by omega) (by omega) _ _ _ hS (lv_sub hl [] rfl) h
  have hb406 : ∀ (s0 : Int32) (μ : Mem) (cells slots : Nat), cells + 0 ≤ 1518 → slots + 0 ≤ 9108 → ∀ (H : Heap) (locs : List Loc) (ls : Array Slot), HS D A (w μ) s.heap H locs → lv_has ls 11 [] → f_L_acts_b406 q0 s0 μ = some (r, μ') → W p l e (headSpec wsL_acts (rmc 10 1518 9108 202)).room s m args below meth c H locs cells slots (MQ below (PI D A (w μ') r) args s 1518 9108 A) (F0 m 406 ls [.int s0]) := by
    intro s0 μ cells slots hc hs H locs ls hS hl h
    unfold f_L_acts_b406 at h
    obtain ⟨v53, ev53, h⟩ := ob h
    obtain ⟨ezv53, eov53⟩ := zr_ok ev53
    rw [ezv53]
    obtain ⟨rfl, rfl⟩ := pr2 h
    exact r_zretM X hS hr hlk eov53 (by omega) (by omega) dL_acts_406
  have hb405 : ∀  (μ : Mem) (cells slots : Nat), cells + 0 ≤ 1518 → slots + 0 ≤ 9108 → ∀ (H : Heap) (locs : List Loc) (ls : Array Slot), HS D A (w μ) s.heap H locs → lv_has ls 11 [] → f_L_acts_b405 q0 μ = some (r, μ') → W p l e (headSpec wsL_acts (rmc 10 1518 9108 202)).room s m args below meth c H locs cells slots (MQ below (PI D A (w μ') r) args s 1518 9108 A) (F0 m 405 ls []) := by
    intro μ cells slots hc hs H locs ls hS hl h
    unfold f_L_acts_b405 at h
    refine lv_iconst (v := 0) hx hb dL_acts_405 (by decide) ?_
    exact hb406 0 μ _ _ (by omega) (by omega) _ _ _ hS (lv_sub hl [] rfl) h
  have hb314 : ∀ (s0 : Int32) (μ : Mem) (cells slots : Nat), cells + 0 ≤ 1518 → slots + 0 ≤ 9108 → ∀ (H : Heap) (locs : List Loc) (ls : Array Slot), HS D A (w μ) s.heap H locs → lv_has ls 11 [] → f_L_acts_b314 q0 s0 μ = some (r, μ') → W p l e (headSpec wsL_acts (rmc 10 1518 9108 202)).room s m args below meth c H locs cells slots (MQ below (PI D A (w μ') r) args s 1518 9108 A) (F0 m 314 ls [.int s0]) := by
    intro s0 μ cells slots hc hs H locs ls hS hl h
    unfold f_L_acts_b314 at h
    obtain ⟨v63, ev63, h⟩ := ob h
    obtain ⟨ezv63, eov63⟩ := zr_ok ev63
    rw [ezv63]
    obtain ⟨rfl, rfl⟩ := pr2 h
    exact r_zretM X hS hr hlk eov63 (by omega) (by omega) dL_acts_314
  have hb313 : ∀  (μ : Mem) (cells slots : Nat), cells + 0 ≤ 1518 → slots + 0 ≤ 9108 → ∀ (H : Heap) (locs : List Loc) (ls : Array Slot), HS D A (w μ) s.heap H locs → lv_has ls 11 [] → f_L_acts_b313 q0 μ = some (r, μ') → W p l e (headSpec wsL_acts (rmc 10 1518 9108 202)).room s m args below meth c H locs cells slots (MQ below (PI D A (w μ') r) args s 1518 9108 A) (F0 m 313 ls []) := by
    intro μ cells slots hc hs H locs ls hS hl h
    unfold f_L_acts_b313 at h
    refine lv_iconst (v := 0) hx hb dL_acts_313 (by decide) ?_
    exact hb314 0 μ _ _ (by omega) (by omega) _ _ _ hS (lv_sub hl [] rfl) h
  have hb240 : ∀ (x2 : Int32) (x4 : Int32) (s0 : Int32) (μ : Mem) (cells slots : Nat), cells + 4 ≤ 1518 → slots + 24 ≤ 9108 → ∀ (H : Heap) (locs : List Loc) (ls : Array Slot), HS D A (w μ) s.heap H locs → lv_has ls 11 [(0, .ref (ad q0)), (2, .int x2), (4, .int x4)] → f_L_acts_b240 q0 x2 x4 s0 μ = some (r, μ') → W p l e (headSpec wsL_acts (rmc 10 1518 9108 202)).room s m args below meth c H locs cells slots (MQ below (PI D A (w μ') r) args s 1518 9108 A) (F0 m 240 ls [.int s0, .ref (ad q0)]) := by
    intro x2 x4 s0 μ cells slots hc hs H locs ls hS hl h
    unfold f_L_acts_b240 at h
    refine lv_iload_n hx hb dL_acts_240 rfl (lv_at hl 1 rfl) ?_
    refine lv_iconst (v := 3) hx hb dL_acts_241 (by decide) ?_
    refine lv_ishr hx hb dL_acts_242 ?_
    obtain ⟨v59, μ60, ev59, h⟩ := ob2 h
    refine r_cim hS (r_runSm (mc := 2) (ms := 12) (As := [.ref (ad q0), .int s0, .int (x2 >>> (3 &&& 31))]) (rest := []) X hS (c_L_commits l hE hst (w := w) (ad := ad) (μ := μ) (D := D) (cI := cI) (cG := cG) (cL := cL) hw0 ev59) (va_cwS 3 X.1.2.2.2.2 gL_acts_L_commits rfl rfl rfl (by decide +kernel) ⟨Nat.le_of_ble_eq_true rfl, Nat.le_of_ble_eq_true rfl⟩) rfl hl.1 rfl (Nat.le_of_ble_eq_true rfl) dL_acts_243 ⟨Nat.le_trans (m := 1518) (by omega) (Nat.le_of_ble_eq_true rfl), Nat.le_trans (m := 9108) (by omega) (Nat.le_of_ble_eq_true rfl)⟩) (fun H locs hS => ?_)
    refine lv_istore (lv' := [(7, .int v59), (0, .ref (ad q0)), (2, .int x2), (4, .int x4)]) hx hb dL_acts_246 hl (by decide) rfl (fun ls hl => ?_)
    refine lv_aload_n hx hb dL_acts_248 rfl (lv_at hl 1 rfl) ?_
    refine lv_aload_n hx hb dL_acts_249 rfl (lv_at hl 1 rfl) ?_
    refine lv_iconst (v := 1) hx hb dL_acts_250 (by decide) ?_
    refine lv_iconst (v := 3) hx hb dL_acts_251 (by decide) ?_
    obtain ⟨v61, ev61, h⟩ := ob h
    refine r_ci hS (r_runV (As := [.int 1, .int 3]) (rest := [.ref (ad q0)]) X hS (c_X6_root l hE (w := w) (ad := ad) (μ := μ60) (D := D) (cI := cI) (cG := cG) (cL := cL) hw0 ev61) (cwV 2 X.1.2.2.2.2 gL_acts_X6_root rfl rfl rfl (by decide +kernel) ⟨Nat.le_of_ble_eq_true rfl, Nat.le_of_ble_eq_true rfl⟩) (q0 := q0) (ci := 4) rfl (hw0.1 μ60).1 rfl hl.1 rfl (Nat.le_of_ble_eq_true rfl) dL_acts_252 ⟨Nat.le_trans (m := 1518) (by omega) (Nat.le_of_ble_eq_true rfl), Nat.le_trans (m := 9108) (by omega) (Nat.le_of_ble_eq_true rfl)⟩) (fun H locs hS => ?_)
    refine lv_iconst (v := 0) hx hb dL_acts_255 (by decide) ?_
    obtain ⟨v62, ev62, h⟩ := ob h
    refine r_ci hS (r_runV (As := [.int v61, .int 0]) (rest := []) X hS (c_X6_root l hE (w := w) (ad := ad) (μ := μ60) (D := D) (cI := cI) (cG := cG) (cL := cL) hw0 ev62) (cwV 2 X.1.2.2.2.2 gL_acts_X6_root rfl rfl rfl (by decide +kernel) ⟨Nat.le_of_ble_eq_true rfl, Nat.le_of_ble_eq_true rfl⟩) (q0 := q0) (ci := 4) rfl (hw0.1 μ60).1 rfl hl.1 rfl (Nat.le_of_ble_eq_true rfl) dL_acts_256 ⟨Nat.le_trans (m := 1518) (by omega) (Nat.le_of_ble_eq_true rfl), Nat.le_trans (m := 9108) (by omega) (Nat.le_of_ble_eq_true rfl)⟩) (fun H locs hS => ?_)
    refine lv_istore (lv' := [(6, .int v62), (7, .int v59), (0, .ref (ad q0)), (2, .int x2), (4, .int x4)]) hx hb dL_acts_259 hl (by decide) rfl (fun ls hl => ?_)
    refine lv_iload hx hb dL_acts_261 (lv_at hl 1 rfl) ?_
    refine lv_if_eq (tgt := 313) hx hb dL_acts_263 (by decide) (fun cc => ?_) (fun cc => ?_)
    · replace h := it h cc
      exact hb313 μ60 _ _ (by omega) (by omega) _ _ _ hS (lv_sub hl [] rfl) h
    · replace h := ie h cc
      refine lv_aload_n hx hb dL_acts_266 rfl (lv_at hl 2 rfl) ?_
      obtain ⟨v64, μ65, ev64, h⟩ := ob2 h
      refine r_ci hS (r_runV (As := []) (rest := []) X hS (c_X6_begin l hE (w := w) (ad := ad) (μ := μ60) (D := D) (cI := cI) (cG := cG) (cL := cL) hw0 ev64) (cwV 0 X.1.2.2.2.2 gL_acts_X6_begin rfl rfl rfl (by decide +kernel) ⟨Nat.le_of_ble_eq_true rfl, Nat.le_of_ble_eq_true rfl⟩) (q0 := q0) (ci := 4) rfl (hw0.1 μ60).1 rfl hl.1 rfl (Nat.le_of_ble_eq_true rfl) dL_acts_267 ⟨Nat.le_trans (m := 1518) (by omega) (Nat.le_of_ble_eq_true rfl), Nat.le_trans (m := 9108) (by omega) (Nat.le_of_ble_eq_true rfl)⟩) (fun H locs hS => ?_)
      refine lv_iload hx hb dL_acts_270 (lv_at hl 0 rfl) ?_
      refine lv_icmp_ne (tgt := 313) hx hb dL_acts_272 (by decide) (fun cc => ?_) (fun cc => ?_)
      · replace h := ie h cc
        exact hb313 μ65 _ _ (by omega) (by omega) _ _ _ hS (lv_sub hl [] rfl) h
      · replace h := it h cc
        refine lv_aload_n hx hb dL_acts_275 rfl (lv_at hl 2 rfl) ?_
        obtain ⟨v66, μ67, ev66, h⟩ := ob2 h
        refine r_cim hS (r_runSW (mc := 1) (ms := 6) (As := [.ref (ad q0)]) (rest := []) X hS (c_L_begin l hE hst (w := w) (ad := ad) (μ := μ65) (D := D) (cI := cI) (cG := cG) (cL := cL) hw0 ev66) (vx_cwSW (hh := [(0, 4, 5, 17)]) 1 X.1.2.2.2.2 gL_acts_L_begin rfl rfl rfl (by decide +kernel) ⟨Nat.le_of_ble_eq_true rfl, Nat.le_of_ble_eq_true rfl⟩) rfl hl.1 rfl (Nat.le_of_ble_eq_true rfl) dL_acts_276 ⟨Nat.le_trans (m := 1518) (by omega) (Nat.le_of_ble_eq_true rfl), Nat.le_trans (m := 9108) (by omega) (Nat.le_of_ble_eq_true rfl)⟩) (fun H locs hS => ?_)
        refine lv_sipush (v := (-2902)) hx hb dL_acts_279 (by decide) ?_
        refine lv_icmp_ne (tgt := 313) hx hb dL_acts_282 (by decide) (fun cc => ?_) (fun cc => ?_)
        · replace h := ie h cc
          exact hb313 μ67 _ _ (by omega) (by omega) _ _ _ hS (lv_sub hl [] rfl) h
        · replace h := it h cc
          refine lv_aload_n hx hb dL_acts_285 rfl (lv_at hl 2 rfl) ?_
          refine lv_iload hx hb dL_acts_286 (lv_at hl 4 rfl) ?_
          obtain ⟨v68, ev68, h⟩ := ob h
          refine r_cim hS (r_runSW (mc := 1) (ms := 6) (As := [.ref (ad q0), .int x4]) (rest := []) X hS (c_L_drafted l hE hst (w := w) (ad := ad) (μ := μ67) (D := D) (cI := cI) (cG := cG) (cL := cL) hw0 ev68) (vx_cwSW (hh := [(0, 5, 6, 15), (0, 5, 11, 17)]) 2 X.1.2.2.2.2 gL_acts_L_drafted rfl rfl rfl (by decide +kernel) ⟨Nat.le_of_ble_eq_true rfl, Nat.le_of_ble_eq_true rfl⟩) rfl hl.1 rfl (Nat.le_of_ble_eq_true rfl) dL_acts_288 ⟨Nat.le_trans (m := 1518) (by omega) (Nat.le_of_ble_eq_true rfl), Nat.le_trans (m := 9108) (by omega) (Nat.le_of_ble_eq_true rfl)⟩) (fun H locs hS => ?_)
          refine lv_aload_n hx hb dL_acts_291 rfl (lv_at hl 2 rfl) ?_
          refine lv_iload hx hb dL_acts_292 (lv_at hl 4 rfl) ?_
          obtain ⟨v69, ev69, h⟩ := ob h
          refine r_ci hS (r_runV (As := [.int x4]) (rest := [.int v68]) X hS (c_X6_get l hE (w := w) (ad := ad) (μ := μ67) (D := D) (cI := cI) (cG := cG) (cL := cL) hw0 ev69) (cwV 1 X.1.2.2.2.2 gL_acts_X6_get rfl rfl rfl (by decide +kernel) ⟨Nat.le_of_ble_eq_true rfl, Nat.le_of_ble_eq_true rfl⟩) (q0 := q0) (ci := 4) rfl (hw0.1 μ67).1 rfl hl.1 rfl (Nat.le_of_ble_eq_true rfl) dL_acts_294 ⟨Nat.le_trans (m := 1518) (by omega) (Nat.le_of_ble_eq_true rfl), Nat.le_trans (m := 9108) (by omega) (Nat.le_of_ble_eq_true rfl)⟩) (fun H locs hS => ?_)
          refine lv_icmp_ne (tgt := 313) hx hb dL_acts_297 (by decide) (fun cc => ?_) (fun cc => ?_)
          · replace h := ie h cc
            exact hb313 μ67 _ _ (by omega) (by omega) _ _ _ hS (lv_sub hl [] rfl) h
          · replace h := it h cc
            refine lv_aload_n hx hb dL_acts_300 rfl (lv_at hl 2 rfl) ?_
            refine lv_bipush (v := 9) hx hb dL_acts_301 (by decide) ?_
            obtain ⟨v70, ev70, h⟩ := ob h
            refine r_ci hS (r_runV (As := [.int 9]) (rest := []) X hS (c_X6_whole l hE (w := w) (ad := ad) (μ := μ67) (D := D) (cI := cI) (cG := cG) (cL := cL) hw0 ev70) (cwV 1 X.1.2.2.2.2 gL_acts_X6_whole rfl rfl rfl (by decide +kernel) ⟨Nat.le_of_ble_eq_true rfl, Nat.le_of_ble_eq_true rfl⟩) (q0 := q0) (ci := 4) rfl (hw0.1 μ67).1 rfl hl.1 rfl (Nat.le_of_ble_eq_true rfl) dL_acts_303 ⟨Nat.le_trans (m := 1518) (by omega) (Nat.le_of_ble_eq_true rfl), Nat.le_trans (m := 9108) (by omega) (Nat.le_of_ble_eq_true rfl)⟩) (fun H locs hS => ?_)
            refine lv_if_ne (tgt := 313) hx hb dL_acts_306 (by decide) (fun cc => ?_) (fun cc => ?_)
            · replace h := ie h cc
              exact hb313 μ67 _ _ (by omega) (by omega) _ _ _ hS (lv_sub hl [] rfl) h
            · replace h := it h cc
              refine lv_iconst (v := 1) hx hb dL_acts_309 (by decide) ?_
              refine lv_goto (tgt := 314) hx hb dL_acts_310 (by decide) ?_
              exact hb314 1 μ67 _ _ (by omega) (by omega) _ _ _ hS (lv_sub hl [] rfl) h
  have hb204 : ∀ (s0 : Int32) (μ : Mem) (cells slots : Nat), cells + 0 ≤ 1518 → slots + 0 ≤ 9108 → ∀ (H : Heap) (locs : List Loc) (ls : Array Slot), HS D A (w μ) s.heap H locs → lv_has ls 11 [] → f_L_acts_b204 q0 s0 μ = some (r, μ') → W p l e (headSpec wsL_acts (rmc 10 1518 9108 202)).room s m args below meth c H locs cells slots (MQ below (PI D A (w μ') r) args s 1518 9108 A) (F0 m 204 ls [.int s0]) := by
    intro s0 μ cells slots hc hs H locs ls hS hl h
    unfold f_L_acts_b204 at h
    obtain ⟨v76, ev76, h⟩ := ob h
    obtain ⟨ezv76, eov76⟩ := zr_ok ev76
    rw [ezv76]
    obtain ⟨rfl, rfl⟩ := pr2 h
    exact r_zretM X hS hr hlk eov76 (by omega) (by omega) dL_acts_204
  have hb203 : ∀  (μ : Mem) (cells slots : Nat), cells + 0 ≤ 1518 → slots + 0 ≤ 9108 → ∀ (H : Heap) (locs : List Loc) (ls : Array Slot), HS D A (w μ) s.heap H locs → lv_has ls 11 [] → f_L_acts_b203 q0 μ = some (r, μ') → W p l e (headSpec wsL_acts (rmc 10 1518 9108 202)).room s m args below meth c H locs cells slots (MQ below (PI D A (w μ') r) args s 1518 9108 A) (F0 m 203 ls []) := by
    intro μ cells slots hc hs H locs ls hS hl h
    unfold f_L_acts_b203 at h
    refine lv_iconst (v := 0) hx hb dL_acts_203 (by decide) ?_
    exact hb204 0 μ _ _ (by omega) (by omega) _ _ _ hS (lv_sub hl [] rfl) h
  have hb199 : ∀  (μ : Mem) (cells slots : Nat), cells + 0 ≤ 1518 → slots + 0 ≤ 9108 → ∀ (H : Heap) (locs : List Loc) (ls : Array Slot), HS D A (w μ) s.heap H locs → lv_has ls 11 [] → f_L_acts_b199 q0 μ = some (r, μ') → W p l e (headSpec wsL_acts (rmc 10 1518 9108 202)).room s m args below meth c H locs cells slots (MQ below (PI D A (w μ') r) args s 1518 9108 A) (F0 m 199 ls []) := by
    intro μ cells slots hc hs H locs ls hS hl h
    unfold f_L_acts_b199 at h
    refine lv_iconst (v := 1) hx hb dL_acts_199 (by decide) ?_
    refine lv_goto (tgt := 204) hx hb dL_acts_200 (by decide) ?_
    exact hb204 1 μ _ _ (by omega) (by omega) _ _ _ hS (lv_sub hl [] rfl) h
  have hb138 : ∀  (μ : Mem) (cells slots : Nat), cells + 0 ≤ 1518 → slots + 0 ≤ 9108 → ∀ (H : Heap) (locs : List Loc) (ls : Array Slot), HS D A (w μ) s.heap H locs → lv_has ls 11 [] → f_L_acts_b138 q0 μ = some (r, μ') → W p l e (headSpec wsL_acts (rmc 10 1518 9108 202)).room s m args below meth c H locs cells slots (MQ below (PI D A (w μ') r) args s 1518 9108 A) (F0 m 138 ls []) := by
    intro μ cells slots hc hs H locs ls hS hl h
    unfold f_L_acts_b138 at h
    refine lv_iconst (v := 0) hx hb dL_acts_138 (by decide) ?_
    refine lv_goto (tgt := 204) hx hb dL_acts_139 (by decide) ?_
    exact hb204 0 μ _ _ (by omega) (by omega) _ _ _ hS (lv_sub hl [] rfl) h
  have hb45 : ∀ (x2 : Int32) (x3 : Int32) (x4 : Int32) (s0 : Int32) (μ : Mem) (cells slots : Nat), cells + 1518 ≤ 1518 → slots + 9108 ≤ 9108 → ∀ (H : Heap) (locs : List Loc) (ls : Array Slot), HS D A (w μ) s.heap H locs → lv_has ls 11 [(0, .ref (ad q0)), (2, .int x2), (3, .int x3), (4, .int x4)] → f_L_acts_b45 q0 x2 x3 x4 s0 μ = some (r, μ') → W p l e (headSpec wsL_acts (rmc 10 1518 9108 202)).room s m args below meth c H locs cells slots (MQ below (PI D A (w μ') r) args s 1518 9108 A) (F0 m 45 ls [.int s0]) := by
    intro x2 x3 x4 s0 μ cells slots hc hs H locs ls hS hl h
    unfold f_L_acts_b45 at h
    refine lv_istore (lv' := [(5, .int s0), (0, .ref (ad q0)), (2, .int x2), (3, .int x3), (4, .int x4)]) hx hb dL_acts_45 hl (by decide) rfl (fun ls hl => ?_)
    refine lv_iload_n hx hb dL_acts_47 rfl (lv_at hl 3 rfl) ?_
    refine lv_bipush (v := 10) hx hb dL_acts_48 (by decide) ?_
    refine lv_icmp_ge (tgt := 74) hx hb dL_acts_50 (by decide) (fun cc => ?_) (fun cc => ?_)
    · replace h := it h cc
      refine lv_iload_n hx hb dL_acts_74 rfl (lv_at hl 3 rfl) ?_
      refine lv_bipush (v := 12) hx hb dL_acts_75 (by decide) ?_
      refine lv_icmp_ge (tgt := 205) hx hb dL_acts_77 (by decide) (fun cc => ?_) (fun cc => ?_)
      · replace h := it h cc
        refine lv_iload_n hx hb dL_acts_205 rfl (lv_at hl 3 rfl) ?_
        refine lv_bipush (v := 15) hx hb dL_acts_206 (by decide) ?_
        refine lv_icmp_ge (tgt := 315) hx hb dL_acts_208 (by decide) (fun cc => ?_) (fun cc => ?_)
        · replace h := it h cc
          refine lv_iload_n hx hb dL_acts_315 rfl (lv_at hl 3 rfl) ?_
          refine lv_bipush (v := 15) hx hb dL_acts_316 (by decide) ?_
          refine lv_icmp_ne (tgt := 407) hx hb dL_acts_318 (by decide) (fun cc => ?_) (fun cc => ?_)
          · replace h := ie h cc
            refine lv_iload_n hx hb dL_acts_407 rfl (lv_at hl 3 rfl) ?_
            refine lv_bipush (v := 16) hx hb dL_acts_408 (by decide) ?_
            refine lv_icmp_ne (tgt := 513) hx hb dL_acts_410 (by decide) (fun cc => ?_) (fun cc => ?_)
            · replace h := ie h cc
              refine lv_iload_n hx hb dL_acts_513 rfl (lv_at hl 3 rfl) ?_
              refine lv_bipush (v := 17) hx hb dL_acts_514 (by decide) ?_
              refine lv_icmp_ne (tgt := 638) hx hb dL_acts_516 (by decide) (fun cc => ?_) (fun cc => ?_)
              · replace h := ie h cc
                refine lv_iload_n hx hb dL_acts_638 rfl (lv_at hl 3 rfl) ?_
                refine lv_bipush (v := 18) hx hb dL_acts_639 (by decide) ?_
                refine lv_icmp_ne (tgt := 739) hx hb dL_acts_641 (by decide) (fun cc => ?_) (fun cc => ?_)
                · replace h := ie h cc
                  refine lv_aload_n hx hb dL_acts_739 rfl (lv_at hl 1 rfl) ?_
                  refine lv_bipush (v := 100) hx hb dL_acts_740 (by decide) ?_
                  refine lv_iconst (v := 0) hx hb dL_acts_742 (by decide) ?_
                  obtain ⟨v5, μ6, ev5, h⟩ := ob2 h
                  refine r_cim hS (r_runSW (mc := 1) (ms := 6) (As := [.ref (ad q0), .int 100, .int 0]) (rest := []) X hS (c_L_put l hE hst (w := w) (ad := ad) (μ := μ) (D := D) (cI := cI) (cG := cG) (cL := cL) hw0 ev5) (vx_cwSW (hh := [(0, 6, 7, 15), (0, 6, 12, 17)]) 3 X.1.2.2.2.2 gL_acts_L_put rfl rfl rfl (by decide +kernel) ⟨Nat.le_of_ble_eq_true rfl, Nat.le_of_ble_eq_true rfl⟩) rfl hl.1 rfl (Nat.le_of_ble_eq_true rfl) dL_acts_743 ⟨Nat.le_trans (m := 1518) (by omega) (Nat.le_of_ble_eq_true rfl), Nat.le_trans (m := 9108) (by omega) (Nat.le_of_ble_eq_true rfl)⟩) (fun H locs hS => ?_)
                  refine lv_sipush (v := (-2901)) hx hb dL_acts_746 (by decide) ?_
                  refine lv_icmp_ne (tgt := 824) hx hb dL_acts_749 (by decide) (fun cc => ?_) (fun cc => ?_)
                  · replace h := ie h cc
                    exact hb824 μ6 _ _ (by omega) (by omega) _ _ _ hS (lv_sub hl [] rfl) h
                  · replace h := it h cc
                    refine lv_aload_n hx hb dL_acts_752 rfl (lv_at hl 1 rfl) ?_
                    refine lv_iconst (v := (-1)) hx hb dL_acts_753 (by decide) ?_
                    obtain ⟨v8, μ9, ev8, h⟩ := ob2 h
                    refine r_cim hS (r_runSW (mc := 1) (ms := 6) (As := [.ref (ad q0), .int (-1)]) (rest := []) X hS (c_L_remove l hE hst (w := w) (ad := ad) (μ := μ6) (D := D) (cI := cI) (cG := cG) (cL := cL) hw0 ev8) (vx_cwSW (hh := [(0, 5, 6, 15), (0, 5, 11, 17)]) 2 X.1.2.2.2.2 gL_acts_L_remove rfl rfl rfl (by decide +kernel) ⟨Nat.le_of_ble_eq_true rfl, Nat.le_of_ble_eq_true rfl⟩) rfl hl.1 rfl (Nat.le_of_ble_eq_true rfl) dL_acts_754 ⟨Nat.le_trans (m := 1518) (by omega) (Nat.le_of_ble_eq_true rfl), Nat.le_trans (m := 9108) (by omega) (Nat.le_of_ble_eq_true rfl)⟩) (fun H locs hS => ?_)
                    refine lv_sipush (v := (-2901)) hx hb dL_acts_757 (by decide) ?_
                    refine lv_icmp_ne (tgt := 824) hx hb dL_acts_760 (by decide) (fun cc => ?_) (fun cc => ?_)
                    · replace h := ie h cc
                      exact hb824 μ9 _ _ (by omega) (by omega) _ _ _ hS (lv_sub hl [] rfl) h
                    · replace h := it h cc
                      refine lv_aload_n hx hb dL_acts_763 rfl (lv_at hl 1 rfl) ?_
                      refine lv_iconst (v := 4) hx hb dL_acts_764 (by decide) ?_
                      obtain ⟨v10, μ11, ev10, h⟩ := ob2 h
                      refine r_cim hS (r_runSW (mc := 1) (ms := 6) (As := [.ref (ad q0), .int 4]) (rest := []) X hS (c_L_commit l hE hst (w := w) (ad := ad) (μ := μ9) (D := D) (cI := cI) (cG := cG) (cL := cL) hw0 ev10) (vx_cwSW (hh := [(0, 5, 6, 15), (0, 5, 11, 17)]) 2 X.1.2.2.2.2 gL_acts_L_commit rfl rfl rfl (by decide +kernel) ⟨Nat.le_of_ble_eq_true rfl, Nat.le_of_ble_eq_true rfl⟩) rfl hl.1 rfl (Nat.le_of_ble_eq_true rfl) dL_acts_765 ⟨Nat.le_trans (m := 1518) (by omega) (Nat.le_of_ble_eq_true rfl), Nat.le_trans (m := 9108) (by omega) (Nat.le_of_ble_eq_true rfl)⟩) (fun H locs hS => ?_)
                      refine lv_sipush (v := (-2901)) hx hb dL_acts_768 (by decide) ?_
                      refine lv_icmp_ne (tgt := 824) hx hb dL_acts_771 (by decide) (fun cc => ?_) (fun cc => ?_)
                      · replace h := ie h cc
                        exact hb824 μ11 _ _ (by omega) (by omega) _ _ _ hS (lv_sub hl [] rfl) h
                      · replace h := it h cc
                        refine lv_aload_n hx hb dL_acts_774 rfl (lv_at hl 1 rfl) ?_
                        refine lv_iconst (v := 4) hx hb dL_acts_775 (by decide) ?_
                        obtain ⟨v12, μ13, ev12, h⟩ := ob2 h
                        refine r_cim hS (r_runSW (mc := 1) (ms := 6) (As := [.ref (ad q0), .int 4]) (rest := []) X hS (c_L_close l hE hst (w := w) (ad := ad) (μ := μ11) (D := D) (cI := cI) (cG := cG) (cL := cL) hw0 ev12) (vx_cwSW (hh := [(0, 5, 6, 39), (0, 5, 11, 17)]) 2 X.1.2.2.2.2 gL_acts_L_close rfl rfl rfl (by decide +kernel) ⟨Nat.le_of_ble_eq_true rfl, Nat.le_of_ble_eq_true rfl⟩) rfl hl.1 rfl (Nat.le_of_ble_eq_true rfl) dL_acts_776 ⟨Nat.le_trans (m := 1518) (by omega) (Nat.le_of_ble_eq_true rfl), Nat.le_trans (m := 9108) (by omega) (Nat.le_of_ble_eq_true rfl)⟩) (fun H locs hS => ?_)
                        refine lv_sipush (v := (-2903)) hx hb dL_acts_779 (by decide) ?_
                        refine lv_icmp_ne (tgt := 824) hx hb dL_acts_782 (by decide) (fun cc => ?_) (fun cc => ?_)
                        · replace h := ie h cc
                          exact hb824 μ13 _ _ (by omega) (by omega) _ _ _ hS (lv_sub hl [] rfl) h
                        · replace h := it h cc
                          refine lv_aload_n hx hb dL_acts_785 rfl (lv_at hl 1 rfl) ?_
                          refine lv_iconst (v := (-1)) hx hb dL_acts_786 (by decide) ?_
                          refine lv_iconst (v := 0) hx hb dL_acts_787 (by decide) ?_
                          obtain ⟨v14, ev14, h⟩ := ob h
                          refine r_cim hS (r_runSW (mc := 1) (ms := 6) (As := [.ref (ad q0), .int (-1), .int 0]) (rest := []) X hS (c_L_read l hE hst (w := w) (ad := ad) (μ := μ13) (D := D) (cI := cI) (cG := cG) (cL := cL) hw0 ev14) (vx_cwSW (hh := [(0, 6, 7, 39), (0, 6, 12, 15), (0, 6, 17, 17)]) 3 X.1.2.2.2.2 gL_acts_L_read rfl rfl rfl (by decide +kernel) ⟨Nat.le_of_ble_eq_true rfl, Nat.le_of_ble_eq_true rfl⟩) rfl hl.1 rfl (Nat.le_of_ble_eq_true rfl) dL_acts_788 ⟨Nat.le_trans (m := 1518) (by omega) (Nat.le_of_ble_eq_true rfl), Nat.le_trans (m := 9108) (by omega) (Nat.le_of_ble_eq_true rfl)⟩) (fun H locs hS => ?_)
                          refine lv_sipush (v := (-2903)) hx hb dL_acts_791 (by decide) ?_
                          refine lv_icmp_ne (tgt := 824) hx hb dL_acts_794 (by decide) (fun cc => ?_) (fun cc => ?_)
                          · replace h := ie h cc
                            exact hb824 μ13 _ _ (by omega) (by omega) _ _ _ hS (lv_sub hl [] rfl) h
                          · replace h := it h cc
                            refine lv_aload_n hx hb dL_acts_797 rfl (lv_at hl 1 rfl) ?_
                            refine lv_iconst (v := 4) hx hb dL_acts_798 (by decide) ?_
                            obtain ⟨v15, ev15, h⟩ := ob h
                            refine r_cim hS (r_runSW (mc := 1) (ms := 6) (As := [.ref (ad q0), .int 4]) (rest := []) X hS (c_L_since l hE hst (w := w) (ad := ad) (μ := μ13) (D := D) (cI := cI) (cG := cG) (cL := cL) hw0 ev15) (vx_cwSW (hh := [(0, 5, 6, 39), (0, 5, 11, 17)]) 2 X.1.2.2.2.2 gL_acts_L_since rfl rfl rfl (by decide +kernel) ⟨Nat.le_of_ble_eq_true rfl, Nat.le_of_ble_eq_true rfl⟩) rfl hl.1 rfl (Nat.le_of_ble_eq_true rfl) dL_acts_799 ⟨Nat.le_trans (m := 1518) (by omega) (Nat.le_of_ble_eq_true rfl), Nat.le_trans (m := 9108) (by omega) (Nat.le_of_ble_eq_true rfl)⟩) (fun H locs hS => ?_)
                            refine lv_sipush (v := (-2903)) hx hb dL_acts_802 (by decide) ?_
                            refine lv_icmp_ne (tgt := 824) hx hb dL_acts_805 (by decide) (fun cc => ?_) (fun cc => ?_)
                            · replace h := ie h cc
                              exact hb824 μ13 _ _ (by omega) (by omega) _ _ _ hS (lv_sub hl [] rfl) h
                            · replace h := it h cc
                              refine lv_aload_n hx hb dL_acts_808 rfl (lv_at hl 1 rfl) ?_
                              refine lv_bipush (v := 100) hx hb dL_acts_809 (by decide) ?_
                              obtain ⟨v16, ev16, h⟩ := ob h
                              refine r_cim hS (r_runSW (mc := 1) (ms := 6) (As := [.ref (ad q0), .int 100]) (rest := []) X hS (c_L_reason l hE hst (w := w) (ad := ad) (μ := μ13) (D := D) (cI := cI) (cG := cG) (cL := cL) hw0 ev16) (vx_cwSW (hh := [(0, 5, 6, 15), (0, 5, 11, 17)]) 2 X.1.2.2.2.2 gL_acts_L_reason rfl rfl rfl (by decide +kernel) ⟨Nat.le_of_ble_eq_true rfl, Nat.le_of_ble_eq_true rfl⟩) rfl hl.1 rfl (Nat.le_of_ble_eq_true rfl) dL_acts_811 ⟨Nat.le_trans (m := 1518) (by omega) (Nat.le_of_ble_eq_true rfl), Nat.le_trans (m := 9108) (by omega) (Nat.le_of_ble_eq_true rfl)⟩) (fun H locs hS => ?_)
                              refine lv_sipush (v := (-2901)) hx hb dL_acts_814 (by decide) ?_
                              refine lv_icmp_ne (tgt := 824) hx hb dL_acts_817 (by decide) (fun cc => ?_) (fun cc => ?_)
                              · replace h := ie h cc
                                exact hb824 μ13 _ _ (by omega) (by omega) _ _ _ hS (lv_sub hl [] rfl) h
                              · replace h := it h cc
                                refine lv_iconst (v := 1) hx hb dL_acts_820 (by decide) ?_
                                refine lv_goto (tgt := 825) hx hb dL_acts_821 (by decide) ?_
                                exact hb825 1 μ13 _ _ (by omega) (by omega) _ _ _ hS (lv_sub hl [] rfl) h
                · replace h := it h cc
                  refine lv_aload_n hx hb dL_acts_644 rfl (lv_at hl 1 rfl) ?_
                  obtain ⟨v17, ev17, h⟩ := ob h
                  refine r_clm hS (r_runSm (mc := 505) (ms := 3030) (As := [.ref (ad q0)]) (rest := []) X hS (c_L_sight l hE hst (w := w) (ad := ad) (μ := μ) (D := D) (cI := cI) (cG := cG) (cL := cL) hw0 ev17) (va_cwS 1 X.1.2.2.2.2 gL_acts_L_sight rfl rfl rfl (by decide +kernel) ⟨Nat.le_of_ble_eq_true rfl, Nat.le_of_ble_eq_true rfl⟩) rfl hl.1 rfl (Nat.le_of_ble_eq_true rfl) dL_acts_645 ⟨Nat.le_trans (m := 1518) (by omega) (Nat.le_of_ble_eq_true rfl), Nat.le_trans (m := 9108) (by omega) (Nat.le_of_ble_eq_true rfl)⟩) (fun H locs hS => ?_)
                  refine lv_lstore (lv' := [(6, .long v17), (5, .int s0), (0, .ref (ad q0)), (2, .int x2), (3, .int x3), (4, .int x4)]) hx hb dL_acts_648 hl (by decide) rfl (fun ls hl => ?_)
                  refine lv_aload_n hx hb dL_acts_650 rfl (lv_at hl 2 rfl) ?_
                  refine lv_bipush (v := 9) hx hb dL_acts_651 (by decide) ?_
                  obtain ⟨v18, ev18, h⟩ := ob h
                  refine r_ci hS (r_runV (As := [.int 9]) (rest := []) X hS (c_X6_whole l hE (w := w) (ad := ad) (μ := μ) (D := D) (cI := cI) (cG := cG) (cL := cL) hw0 ev18) (cwV 1 X.1.2.2.2.2 gL_acts_X6_whole rfl rfl rfl (by decide +kernel) ⟨Nat.le_of_ble_eq_true rfl, Nat.le_of_ble_eq_true rfl⟩) (q0 := q0) (ci := 4) rfl (hw0.1 μ).1 rfl hl.1 rfl (Nat.le_of_ble_eq_true rfl) dL_acts_653 ⟨Nat.le_trans (m := 1518) (by omega) (Nat.le_of_ble_eq_true rfl), Nat.le_trans (m := 9108) (by omega) (Nat.le_of_ble_eq_true rfl)⟩) (fun H locs hS => ?_)
                  refine lv_istore (lv' := [(8, .int v18), (6, .long v17), (5, .int s0), (0, .ref (ad q0)), (2, .int x2), (3, .int x3), (4, .int x4)]) hx hb dL_acts_656 hl (by decide) rfl (fun ls hl => ?_)
                  refine lv_aload_n hx hb dL_acts_658 rfl (lv_at hl 3 rfl) ?_
                  refine lv_iload hx hb dL_acts_659 (lv_at hl 6 rfl) ?_
                  obtain ⟨v19, ev19, h⟩ := ob h
                  refine r_cim hS (r_runSW (mc := 1) (ms := 6) (As := [.ref (ad q0), .int x4]) (rest := []) X hS (c_L_drafted l hE hst (w := w) (ad := ad) (μ := μ) (D := D) (cI := cI) (cG := cG) (cL := cL) hw0 ev19) (vx_cwSW (hh := [(0, 5, 6, 15), (0, 5, 11, 17)]) 2 X.1.2.2.2.2 gL_acts_L_drafted rfl rfl rfl (by decide +kernel) ⟨Nat.le_of_ble_eq_true rfl, Nat.le_of_ble_eq_true rfl⟩) rfl hl.1 rfl (Nat.le_of_ble_eq_true rfl) dL_acts_661 ⟨Nat.le_trans (m := 1518) (by omega) (Nat.le_of_ble_eq_true rfl), Nat.le_trans (m := 9108) (by omega) (Nat.le_of_ble_eq_true rfl)⟩) (fun H locs hS => ?_)
                  refine lv_istore (lv' := [(9, .int v19), (8, .int v18), (6, .long v17), (5, .int s0), (0, .ref (ad q0)), (2, .int x2), (3, .int x3), (4, .int x4)]) hx hb dL_acts_664 hl (by decide) rfl (fun ls hl => ?_)
                  refine lv_aload_n hx hb dL_acts_666 rfl (lv_at hl 4 rfl) ?_
                  refine lv_iload hx hb dL_acts_667 (lv_at hl 7 rfl) ?_
                  refine lv_bipush (v := 77) hx hb dL_acts_669 (by decide) ?_
                  obtain ⟨v20, μ21, ev20, h⟩ := ob2 h
                  refine r_cim hS (r_runSW (mc := 1) (ms := 6) (As := [.ref (ad q0), .int x4, .int 77]) (rest := []) X hS (c_L_put l hE hst (w := w) (ad := ad) (μ := μ) (D := D) (cI := cI) (cG := cG) (cL := cL) hw0 ev20) (vx_cwSW (hh := [(0, 6, 7, 15), (0, 6, 12, 17)]) 3 X.1.2.2.2.2 gL_acts_L_put rfl rfl rfl (by decide +kernel) ⟨Nat.le_of_ble_eq_true rfl, Nat.le_of_ble_eq_true rfl⟩) rfl hl.1 rfl (Nat.le_of_ble_eq_true rfl) dL_acts_671 ⟨Nat.le_trans (m := 1518) (by omega) (Nat.le_of_ble_eq_true rfl), Nat.le_trans (m := 9108) (by omega) (Nat.le_of_ble_eq_true rfl)⟩) (fun H locs hS => ?_)
                  refine lv_istore (lv' := [(10, .int v20), (9, .int v19), (8, .int v18), (6, .long v17), (5, .int s0), (0, .ref (ad q0)), (2, .int x2), (3, .int x3), (4, .int x4)]) hx hb dL_acts_674 hl (by decide) rfl (fun ls hl => ?_)
                  refine lv_iload hx hb dL_acts_676 (lv_at hl 0 rfl) ?_
                  refine lv_sipush (v := (-2902)) hx hb dL_acts_678 (by decide) ?_
                  refine lv_icmp_eq (tgt := 733) hx hb dL_acts_681 (by decide) (fun cc => ?_) (fun cc => ?_)
                  · replace h := it h cc
                    exact hb733 μ21 _ _ (by omega) (by omega) _ _ _ hS (lv_sub hl [] rfl) h
                  · replace h := ie h cc
                    refine lv_aload_n hx hb dL_acts_684 rfl (lv_at hl 5 rfl) ?_
                    obtain ⟨v23, ev23, h⟩ := ob h
                    refine r_clm hS (r_runSm (mc := 505) (ms := 3030) (As := [.ref (ad q0)]) (rest := []) X hS (c_L_sight l hE hst (w := w) (ad := ad) (μ := μ21) (D := D) (cI := cI) (cG := cG) (cL := cL) hw0 ev23) (va_cwS 1 X.1.2.2.2.2 gL_acts_L_sight rfl rfl rfl (by decide +kernel) ⟨Nat.le_of_ble_eq_true rfl, Nat.le_of_ble_eq_true rfl⟩) rfl hl.1 rfl (Nat.le_of_ble_eq_true rfl) dL_acts_685 ⟨Nat.le_trans (m := 1518) (by omega) (Nat.le_of_ble_eq_true rfl), Nat.le_trans (m := 9108) (by omega) (Nat.le_of_ble_eq_true rfl)⟩) (fun H locs hS => ?_)
                    refine lv_lload hx hb dL_acts_688 (lv_at hl 3 rfl) ?_
                    refine W.lcmp hx hb dL_acts_690 ?_
                    refine lv_if_ne (tgt := 737) hx hb dL_acts_691 (by decide) (fun cc => ?_) (fun cc => ?_)
                    · replace h := ie h cc
                      exact hb737 μ21 _ _ (by omega) (by omega) _ _ _ hS (lv_sub hl [] rfl) h
                    · replace h := it h cc
                      refine lv_aload_n hx hb dL_acts_694 rfl (lv_at hl 5 rfl) ?_
                      obtain ⟨v24, μ25, ev24, h⟩ := ob2 h
                      refine r_ci hS (r_runV (As := []) (rest := []) X hS (c_X6_undo l hE (w := w) (ad := ad) (μ := μ21) (D := D) (cI := cI) (cG := cG) (cL := cL) hw0 ev24) (cwV 0 X.1.2.2.2.2 gL_acts_X6_undo rfl rfl rfl (by decide +kernel) ⟨Nat.le_of_ble_eq_true rfl, Nat.le_of_ble_eq_true rfl⟩) (q0 := q0) (ci := 4) rfl (hw0.1 μ21).1 rfl hl.1 rfl (Nat.le_of_ble_eq_true rfl) dL_acts_695 ⟨Nat.le_trans (m := 1518) (by omega) (Nat.le_of_ble_eq_true rfl), Nat.le_trans (m := 9108) (by omega) (Nat.le_of_ble_eq_true rfl)⟩) (fun H locs hS => ?_)
                      refine lv_if_lt (tgt := 737) hx hb dL_acts_698 (by decide) (fun cc => ?_) (fun cc => ?_)
                      · replace h := it h cc
                        exact hb737 μ25 _ _ (by omega) (by omega) _ _ _ hS (lv_sub hl [] rfl) h
                      · replace h := ie h cc
                        refine lv_aload_n hx hb dL_acts_701 rfl (lv_at hl 5 rfl) ?_
                        obtain ⟨v26, ev26, h⟩ := ob h
                        refine r_clm hS (r_runSm (mc := 505) (ms := 3030) (As := [.ref (ad q0)]) (rest := []) X hS (c_L_sight l hE hst (w := w) (ad := ad) (μ := μ25) (D := D) (cI := cI) (cG := cG) (cL := cL) hw0 ev26) (va_cwS 1 X.1.2.2.2.2 gL_acts_L_sight rfl rfl rfl (by decide +kernel) ⟨Nat.le_of_ble_eq_true rfl, Nat.le_of_ble_eq_true rfl⟩) rfl hl.1 rfl (Nat.le_of_ble_eq_true rfl) dL_acts_702 ⟨Nat.le_trans (m := 1518) (by omega) (Nat.le_of_ble_eq_true rfl), Nat.le_trans (m := 9108) (by omega) (Nat.le_of_ble_eq_true rfl)⟩) (fun H locs hS => ?_)
                        refine lv_lload hx hb dL_acts_705 (lv_at hl 3 rfl) ?_
                        refine W.lcmp hx hb dL_acts_707 ?_
                        refine lv_if_ne (tgt := 737) hx hb dL_acts_708 (by decide) (fun cc => ?_) (fun cc => ?_)
                        · replace h := ie h cc
                          exact hb737 μ25 _ _ (by omega) (by omega) _ _ _ hS (lv_sub hl [] rfl) h
                        · replace h := it h cc
                          refine lv_aload_n hx hb dL_acts_711 rfl (lv_at hl 5 rfl) ?_
                          refine lv_bipush (v := 9) hx hb dL_acts_712 (by decide) ?_
                          obtain ⟨v27, ev27, h⟩ := ob h
                          refine r_ci hS (r_runV (As := [.int 9]) (rest := []) X hS (c_X6_whole l hE (w := w) (ad := ad) (μ := μ25) (D := D) (cI := cI) (cG := cG) (cL := cL) hw0 ev27) (cwV 1 X.1.2.2.2.2 gL_acts_X6_whole rfl rfl rfl (by decide +kernel) ⟨Nat.le_of_ble_eq_true rfl, Nat.le_of_ble_eq_true rfl⟩) (q0 := q0) (ci := 4) rfl (hw0.1 μ25).1 rfl hl.1 rfl (Nat.le_of_ble_eq_true rfl) dL_acts_714 ⟨Nat.le_trans (m := 1518) (by omega) (Nat.le_of_ble_eq_true rfl), Nat.le_trans (m := 9108) (by omega) (Nat.le_of_ble_eq_true rfl)⟩) (fun H locs hS => ?_)
                          refine lv_iload hx hb dL_acts_717 (lv_at hl 2 rfl) ?_
                          refine lv_icmp_ne (tgt := 737) hx hb dL_acts_719 (by decide) (fun cc => ?_) (fun cc => ?_)
                          · replace h := ie h cc
                            exact hb737 μ25 _ _ (by omega) (by omega) _ _ _ hS (lv_sub hl [] rfl) h
                          · replace h := it h cc
                            refine lv_aload_n hx hb dL_acts_722 rfl (lv_at hl 5 rfl) ?_
                            refine lv_iload hx hb dL_acts_723 (lv_at hl 8 rfl) ?_
                            obtain ⟨v28, ev28, h⟩ := ob h
                            refine r_cim hS (r_runSW (mc := 1) (ms := 6) (As := [.ref (ad q0), .int x4]) (rest := []) X hS (c_L_drafted l hE hst (w := w) (ad := ad) (μ := μ25) (D := D) (cI := cI) (cG := cG) (cL := cL) hw0 ev28) (vx_cwSW (hh := [(0, 5, 6, 15), (0, 5, 11, 17)]) 2 X.1.2.2.2.2 gL_acts_L_drafted rfl rfl rfl (by decide +kernel) ⟨Nat.le_of_ble_eq_true rfl, Nat.le_of_ble_eq_true rfl⟩) rfl hl.1 rfl (Nat.le_of_ble_eq_true rfl) dL_acts_725 ⟨Nat.le_trans (m := 1518) (by omega) (Nat.le_of_ble_eq_true rfl), Nat.le_trans (m := 9108) (by omega) (Nat.le_of_ble_eq_true rfl)⟩) (fun H locs hS => ?_)
                            refine lv_iload hx hb dL_acts_728 (lv_at hl 1 rfl) ?_
                            refine lv_icmp_ne (tgt := 737) hx hb dL_acts_730 (by decide) (fun cc => ?_) (fun cc => ?_)
                            · replace h := ie h cc
                              exact hb737 μ25 _ _ (by omega) (by omega) _ _ _ hS (lv_sub hl [] rfl) h
                            · replace h := it h cc
                              exact hb733 μ25 _ _ (by omega) (by omega) _ _ _ hS (lv_sub hl [] rfl) h
              · replace h := it h cc
                refine lv_iload_n hx hb dL_acts_519 rfl (lv_at hl 2 rfl) ?_
                refine lv_iconst (v := 4) hx hb dL_acts_520 (by decide) ?_
                obtain ⟨v29, ev29, h⟩ := ob h
                refine r_cim hS (r_runSm (mc := 0) (ms := 0) (As := [.int x2, .int 4]) (rest := []) X hS (c_L_low l hE (w := w) (ad := ad) (μ := μ) (D := D) (cI := cI) (cG := cG) (cL := cL) ev29) (va_cwS 2 X.1.2.2.2.2 gL_acts_L_low rfl rfl rfl (by decide +kernel) ⟨Nat.le_of_ble_eq_true rfl, Nat.le_of_ble_eq_true rfl⟩) rfl hl.1 rfl (Nat.le_of_ble_eq_true rfl) dL_acts_521 ⟨Nat.le_trans (m := 1518) (by omega) (Nat.le_of_ble_eq_true rfl), Nat.le_trans (m := 9108) (by omega) (Nat.le_of_ble_eq_true rfl)⟩) (fun H locs hS => ?_)
                refine lv_istore (lv' := [(6, .int v29), (5, .int s0), (0, .ref (ad q0)), (2, .int x2), (3, .int x3), (4, .int x4)]) hx hb dL_acts_524 hl (by decide) rfl (fun ls hl => ?_)
                refine lv_aload_n hx hb dL_acts_526 rfl (lv_at hl 2 rfl) ?_
                refine lv_iconst (v := 3) hx hb dL_acts_527 (by decide) ?_
                obtain ⟨v30, ev30, h⟩ := ob h
                refine r_ci hS (r_runV (As := [.int 3]) (rest := []) X hS (c_X6_whole l hE (w := w) (ad := ad) (μ := μ) (D := D) (cI := cI) (cG := cG) (cL := cL) hw0 ev30) (cwV 1 X.1.2.2.2.2 gL_acts_X6_whole rfl rfl rfl (by decide +kernel) ⟨Nat.le_of_ble_eq_true rfl, Nat.le_of_ble_eq_true rfl⟩) (q0 := q0) (ci := 4) rfl (hw0.1 μ).1 rfl hl.1 rfl (Nat.le_of_ble_eq_true rfl) dL_acts_528 ⟨Nat.le_trans (m := 1518) (by omega) (Nat.le_of_ble_eq_true rfl), Nat.le_trans (m := 9108) (by omega) (Nat.le_of_ble_eq_true rfl)⟩) (fun H locs hS => ?_)
                refine lv_istore (lv' := [(7, .int v30), (6, .int v29), (5, .int s0), (0, .ref (ad q0)), (2, .int x2), (3, .int x3), (4, .int x4)]) hx hb dL_acts_531 hl (by decide) rfl (fun ls hl => ?_)
                refine lv_aload_n hx hb dL_acts_533 rfl (lv_at hl 3 rfl) ?_
                refine lv_iload hx hb dL_acts_534 (lv_at hl 1 rfl) ?_
                refine lv_iconst (v := 0) hx hb dL_acts_536 (by decide) ?_
                obtain ⟨v31, ev31, h⟩ := ob h
                refine r_ci hS (r_runV (As := [.int v29, .int 0]) (rest := []) X hS (c_X6_reader l hE (w := w) (ad := ad) (μ := μ) (D := D) (cI := cI) (cG := cG) (cL := cL) hw0 ev31) (cwV 2 X.1.2.2.2.2 gL_acts_X6_reader rfl rfl rfl (by decide +kernel) ⟨Nat.le_of_ble_eq_true rfl, Nat.le_of_ble_eq_true rfl⟩) (q0 := q0) (ci := 4) rfl (hw0.1 μ).1 rfl hl.1 rfl (Nat.le_of_ble_eq_true rfl) dL_acts_537 ⟨Nat.le_trans (m := 1518) (by omega) (Nat.le_of_ble_eq_true rfl), Nat.le_trans (m := 9108) (by omega) (Nat.le_of_ble_eq_true rfl)⟩) (fun H locs hS => ?_)
                refine lv_sipush (v := (-1000)) hx hb dL_acts_540 (by decide) ?_
                refine lv_icmp_eq (tgt := 550) hx hb dL_acts_543 (by decide) (fun cc => ?_) (fun cc => ?_)
                · replace h := it h cc
                  refine lv_iconst (v := 0) hx hb dL_acts_550 (by decide) ?_
                  exact hb551 v29 v30 0 μ _ _ (by omega) (by omega) _ _ _ hS (lv_sub hl [3, 1, 0] rfl) h
                · replace h := ie h cc
                  refine lv_iconst (v := 1) hx hb dL_acts_546 (by decide) ?_
                  refine lv_goto (tgt := 551) hx hb dL_acts_547 (by decide) ?_
                  exact hb551 v29 v30 1 μ _ _ (by omega) (by omega) _ _ _ hS (lv_sub hl [3, 1, 0] rfl) h
            · replace h := it h cc
              refine lv_aload_n hx hb dL_acts_413 rfl (lv_at hl 1 rfl) ?_
              refine lv_bipush (v := 7) hx hb dL_acts_414 (by decide) ?_
              obtain ⟨v38, ev38, h⟩ := ob h
              refine r_ci hS (r_runV (As := [.int 7]) (rest := []) X hS (c_X6_whole l hE (w := w) (ad := ad) (μ := μ) (D := D) (cI := cI) (cG := cG) (cL := cL) hw0 ev38) (cwV 1 X.1.2.2.2.2 gL_acts_X6_whole rfl rfl rfl (by decide +kernel) ⟨Nat.le_of_ble_eq_true rfl, Nat.le_of_ble_eq_true rfl⟩) (q0 := q0) (ci := 4) rfl (hw0.1 μ).1 rfl hl.1 rfl (Nat.le_of_ble_eq_true rfl) dL_acts_416 ⟨Nat.le_trans (m := 1518) (by omega) (Nat.le_of_ble_eq_true rfl), Nat.le_trans (m := 9108) (by omega) (Nat.le_of_ble_eq_true rfl)⟩) (fun H locs hS => ?_)
              refine lv_istore (lv' := [(6, .int v38), (5, .int s0), (0, .ref (ad q0)), (2, .int x2), (3, .int x3), (4, .int x4)]) hx hb dL_acts_419 hl (by decide) rfl (fun ls hl => ?_)
              refine lv_aload_n hx hb dL_acts_421 rfl (lv_at hl 2 rfl) ?_
              obtain ⟨v39, μ40, ev39, h⟩ := ob2 h
              refine r_cim hS (r_runSW (mc := 1) (ms := 6) (As := [.ref (ad q0)]) (rest := []) X hS (c_L_open l hE hst (w := w) (ad := ad) (μ := μ) (D := D) (cI := cI) (cG := cG) (cL := cL) hw0 ev39) (vx_cwSW (hh := [(0, 4, 5, 17)]) 1 X.1.2.2.2.2 gL_acts_L_open rfl rfl rfl (by decide +kernel) ⟨Nat.le_of_ble_eq_true rfl, Nat.le_of_ble_eq_true rfl⟩) rfl hl.1 rfl (Nat.le_of_ble_eq_true rfl) dL_acts_422 ⟨Nat.le_trans (m := 1518) (by omega) (Nat.le_of_ble_eq_true rfl), Nat.le_trans (m := 9108) (by omega) (Nat.le_of_ble_eq_true rfl)⟩) (fun H locs hS => ?_)
              refine lv_istore (lv' := [(7, .int v39), (6, .int v38), (5, .int s0), (0, .ref (ad q0)), (2, .int x2), (3, .int x3), (4, .int x4)]) hx hb dL_acts_425 hl (by decide) rfl (fun ls hl => ?_)
              refine lv_iload hx hb dL_acts_427 (lv_at hl 0 rfl) ?_
              refine lv_sipush (v := (-2902)) hx hb dL_acts_429 (by decide) ?_
              refine lv_icmp_ne (tgt := 449) hx hb dL_acts_432 (by decide) (fun cc => ?_) (fun cc => ?_)
              · replace h := ie h cc
                refine lv_aload_n hx hb dL_acts_449 rfl (lv_at hl 3 rfl) ?_
                refine lv_iload hx hb dL_acts_450 (lv_at hl 0 rfl) ?_
                refine lv_iconst (v := 0) hx hb dL_acts_452 (by decide) ?_
                obtain ⟨v41, ev41, h⟩ := ob h
                refine r_ci hS (r_runV (As := [.int v39, .int 0]) (rest := []) X hS (c_X6_reader l hE (w := w) (ad := ad) (μ := μ40) (D := D) (cI := cI) (cG := cG) (cL := cL) hw0 ev41) (cwV 2 X.1.2.2.2.2 gL_acts_X6_reader rfl rfl rfl (by decide +kernel) ⟨Nat.le_of_ble_eq_true rfl, Nat.le_of_ble_eq_true rfl⟩) (q0 := q0) (ci := 4) rfl (hw0.1 μ40).1 rfl hl.1 rfl (Nat.le_of_ble_eq_true rfl) dL_acts_453 ⟨Nat.le_trans (m := 1518) (by omega) (Nat.le_of_ble_eq_true rfl), Nat.le_trans (m := 9108) (by omega) (Nat.le_of_ble_eq_true rfl)⟩) (fun H locs hS => ?_)
                refine lv_aload_n hx hb dL_acts_456 rfl (lv_at hl 3 rfl) ?_
                refine lv_aload_n hx hb dL_acts_457 rfl (lv_at hl 3 rfl) ?_
                refine lv_iconst (v := 1) hx hb dL_acts_458 (by decide) ?_
                refine lv_iconst (v := 3) hx hb dL_acts_459 (by decide) ?_
                obtain ⟨v42, ev42, h⟩ := ob h
                refine r_ci hS (r_runV (As := [.int 1, .int 3]) (rest := [.ref (ad q0), .int v41]) X hS (c_X6_root l hE (w := w) (ad := ad) (μ := μ40) (D := D) (cI := cI) (cG := cG) (cL := cL) hw0 ev42) (cwV 2 X.1.2.2.2.2 gL_acts_X6_root rfl rfl rfl (by decide +kernel) ⟨Nat.le_of_ble_eq_true rfl, Nat.le_of_ble_eq_true rfl⟩) (q0 := q0) (ci := 4) rfl (hw0.1 μ40).1 rfl hl.1 rfl (Nat.le_of_ble_eq_true rfl) dL_acts_460 ⟨Nat.le_trans (m := 1518) (by omega) (Nat.le_of_ble_eq_true rfl), Nat.le_trans (m := 9108) (by omega) (Nat.le_of_ble_eq_true rfl)⟩) (fun H locs hS => ?_)
                refine lv_iconst (v := 0) hx hb dL_acts_463 (by decide) ?_
                obtain ⟨v43, ev43, h⟩ := ob h
                refine r_ci hS (r_runV (As := [.int v42, .int 0]) (rest := [.int v41]) X hS (c_X6_root l hE (w := w) (ad := ad) (μ := μ40) (D := D) (cI := cI) (cG := cG) (cL := cL) hw0 ev43) (cwV 2 X.1.2.2.2.2 gL_acts_X6_root rfl rfl rfl (by decide +kernel) ⟨Nat.le_of_ble_eq_true rfl, Nat.le_of_ble_eq_true rfl⟩) (q0 := q0) (ci := 4) rfl (hw0.1 μ40).1 rfl hl.1 rfl (Nat.le_of_ble_eq_true rfl) dL_acts_464 ⟨Nat.le_trans (m := 1518) (by omega) (Nat.le_of_ble_eq_true rfl), Nat.le_trans (m := 9108) (by omega) (Nat.le_of_ble_eq_true rfl)⟩) (fun H locs hS => ?_)
                refine lv_icmp_ne (tgt := 511) hx hb dL_acts_467 (by decide) (fun cc => ?_) (fun cc => ?_)
                · replace h := ie h cc
                  exact hb511 μ40 _ _ (by omega) (by omega) _ _ _ hS (lv_sub hl [] rfl) h
                · replace h := it h cc
                  refine lv_aload_n hx hb dL_acts_470 rfl (lv_at hl 3 rfl) ?_
                  refine lv_iload hx hb dL_acts_471 (lv_at hl 0 rfl) ?_
                  refine lv_iconst (v := 2) hx hb dL_acts_473 (by decide) ?_
                  obtain ⟨v45, ev45, h⟩ := ob h
                  refine r_ci hS (r_runV (As := [.int v39, .int 2]) (rest := []) X hS (c_X6_reader l hE (w := w) (ad := ad) (μ := μ40) (D := D) (cI := cI) (cG := cG) (cL := cL) hw0 ev45) (cwV 2 X.1.2.2.2.2 gL_acts_X6_reader rfl rfl rfl (by decide +kernel) ⟨Nat.le_of_ble_eq_true rfl, Nat.le_of_ble_eq_true rfl⟩) (q0 := q0) (ci := 4) rfl (hw0.1 μ40).1 rfl hl.1 rfl (Nat.le_of_ble_eq_true rfl) dL_acts_474 ⟨Nat.le_trans (m := 1518) (by omega) (Nat.le_of_ble_eq_true rfl), Nat.le_trans (m := 9108) (by omega) (Nat.le_of_ble_eq_true rfl)⟩) (fun H locs hS => ?_)
                  refine lv_aload_n hx hb dL_acts_477 rfl (lv_at hl 3 rfl) ?_
                  refine lv_iconst (v := 5) hx hb dL_acts_478 (by decide) ?_
                  obtain ⟨v46, ev46, h⟩ := ob h
                  refine r_ci hS (r_runV (As := [.int 5]) (rest := [.int v45]) X hS (c_X6_whole l hE (w := w) (ad := ad) (μ := μ40) (D := D) (cI := cI) (cG := cG) (cL := cL) hw0 ev46) (cwV 1 X.1.2.2.2.2 gL_acts_X6_whole rfl rfl rfl (by decide +kernel) ⟨Nat.le_of_ble_eq_true rfl, Nat.le_of_ble_eq_true rfl⟩) (q0 := q0) (ci := 4) rfl (hw0.1 μ40).1 rfl hl.1 rfl (Nat.le_of_ble_eq_true rfl) dL_acts_479 ⟨Nat.le_trans (m := 1518) (by omega) (Nat.le_of_ble_eq_true rfl), Nat.le_trans (m := 9108) (by omega) (Nat.le_of_ble_eq_true rfl)⟩) (fun H locs hS => ?_)
                  refine lv_icmp_ne (tgt := 511) hx hb dL_acts_482 (by decide) (fun cc => ?_) (fun cc => ?_)
                  · replace h := ie h cc
                    exact hb511 μ40 _ _ (by omega) (by omega) _ _ _ hS (lv_sub hl [] rfl) h
                  · replace h := it h cc
                    refine lv_aload_n hx hb dL_acts_485 rfl (lv_at hl 3 rfl) ?_
                    refine lv_bipush (v := 7) hx hb dL_acts_486 (by decide) ?_
                    obtain ⟨v47, ev47, h⟩ := ob h
                    refine r_ci hS (r_runV (As := [.int 7]) (rest := []) X hS (c_X6_whole l hE (w := w) (ad := ad) (μ := μ40) (D := D) (cI := cI) (cG := cG) (cL := cL) hw0 ev47) (cwV 1 X.1.2.2.2.2 gL_acts_X6_whole rfl rfl rfl (by decide +kernel) ⟨Nat.le_of_ble_eq_true rfl, Nat.le_of_ble_eq_true rfl⟩) (q0 := q0) (ci := 4) rfl (hw0.1 μ40).1 rfl hl.1 rfl (Nat.le_of_ble_eq_true rfl) dL_acts_488 ⟨Nat.le_trans (m := 1518) (by omega) (Nat.le_of_ble_eq_true rfl), Nat.le_trans (m := 9108) (by omega) (Nat.le_of_ble_eq_true rfl)⟩) (fun H locs hS => ?_)
                    refine lv_iload hx hb dL_acts_491 (lv_at hl 1 rfl) ?_
                    refine lv_iconst (v := 1) hx hb dL_acts_493 (by decide) ?_
                    refine lv_iadd hx hb dL_acts_494 ?_
                    refine lv_icmp_ne (tgt := 511) hx hb dL_acts_495 (by decide) (fun cc => ?_) (fun cc => ?_)
                    · replace h := ie h cc
                      exact hb511 μ40 _ _ (by omega) (by omega) _ _ _ hS (lv_sub hl [] rfl) h
                    · replace h := it h cc
                      refine lv_aload_n hx hb dL_acts_498 rfl (lv_at hl 3 rfl) ?_
                      refine lv_iload hx hb dL_acts_499 (lv_at hl 0 rfl) ?_
                      obtain ⟨v48, ev48, h⟩ := ob h
                      refine r_ci hS (r_runV (As := [.int v39]) (rest := []) X hS (c_X6_changedSince l hE (w := w) (ad := ad) (μ := μ40) (D := D) (cI := cI) (cG := cG) (cL := cL) hw0 ev48) (cwV 1 X.1.2.2.2.2 gL_acts_X6_changedSince rfl rfl rfl (by decide +kernel) ⟨Nat.le_of_ble_eq_true rfl, Nat.le_of_ble_eq_true rfl⟩) (q0 := q0) (ci := 4) rfl (hw0.1 μ40).1 rfl hl.1 rfl (Nat.le_of_ble_eq_true rfl) dL_acts_501 ⟨Nat.le_trans (m := 1518) (by omega) (Nat.le_of_ble_eq_true rfl), Nat.le_trans (m := 9108) (by omega) (Nat.le_of_ble_eq_true rfl)⟩) (fun H locs hS => ?_)
                      refine lv_if_ne (tgt := 511) hx hb dL_acts_504 (by decide) (fun cc => ?_) (fun cc => ?_)
                      · replace h := ie h cc
                        exact hb511 μ40 _ _ (by omega) (by omega) _ _ _ hS (lv_sub hl [] rfl) h
                      · replace h := it h cc
                        refine lv_iconst (v := 1) hx hb dL_acts_507 (by decide) ?_
                        refine lv_goto (tgt := 512) hx hb dL_acts_508 (by decide) ?_
                        exact hb512 1 μ40 _ _ (by omega) (by omega) _ _ _ hS (lv_sub hl [] rfl) h
              · replace h := it h cc
                refine lv_iload hx hb dL_acts_435 (lv_at hl 1 rfl) ?_
                refine lv_iconst (v := 4) hx hb dL_acts_437 (by decide) ?_
                refine lv_icmp_ne (tgt := 445) hx hb dL_acts_438 (by decide) (fun cc => ?_) (fun cc => ?_)
                · replace h := ie h cc
                  refine lv_iconst (v := 0) hx hb dL_acts_445 (by decide) ?_
                  refine lv_goto (tgt := 512) hx hb dL_acts_446 (by decide) ?_
                  exact hb512 0 μ40 _ _ (by omega) (by omega) _ _ _ hS (lv_sub hl [] rfl) h
                · replace h := it h cc
                  refine lv_iconst (v := 1) hx hb dL_acts_441 (by decide) ?_
                  refine lv_goto (tgt := 512) hx hb dL_acts_442 (by decide) ?_
                  exact hb512 1 μ40 _ _ (by omega) (by omega) _ _ _ hS (lv_sub hl [] rfl) h
          · replace h := it h cc
            refine lv_aload_n hx hb dL_acts_321 rfl (lv_at hl 1 rfl) ?_
            refine lv_bipush (v := 9) hx hb dL_acts_322 (by decide) ?_
            obtain ⟨v49, ev49, h⟩ := ob h
            refine r_ci hS (r_runV (As := [.int 9]) (rest := []) X hS (c_X6_whole l hE (w := w) (ad := ad) (μ := μ) (D := D) (cI := cI) (cG := cG) (cL := cL) hw0 ev49) (cwV 1 X.1.2.2.2.2 gL_acts_X6_whole rfl rfl rfl (by decide +kernel) ⟨Nat.le_of_ble_eq_true rfl, Nat.le_of_ble_eq_true rfl⟩) (q0 := q0) (ci := 4) rfl (hw0.1 μ).1 rfl hl.1 rfl (Nat.le_of_ble_eq_true rfl) dL_acts_324 ⟨Nat.le_trans (m := 1518) (by omega) (Nat.le_of_ble_eq_true rfl), Nat.le_trans (m := 9108) (by omega) (Nat.le_of_ble_eq_true rfl)⟩) (fun H locs hS => ?_)
            refine lv_istore (lv' := [(6, .int v49), (5, .int s0), (0, .ref (ad q0)), (2, .int x2), (3, .int x3), (4, .int x4)]) hx hb dL_acts_327 hl (by decide) rfl (fun ls hl => ?_)
            refine lv_aload_n hx hb dL_acts_329 rfl (lv_at hl 2 rfl) ?_
            refine lv_iconst (v := 0) hx hb dL_acts_330 (by decide) ?_
            obtain ⟨v50, ev50, h⟩ := ob h
            refine r_ci hS (r_runV (As := [.int 0]) (rest := []) X hS (c_X6_whole l hE (w := w) (ad := ad) (μ := μ) (D := D) (cI := cI) (cG := cG) (cL := cL) hw0 ev50) (cwV 1 X.1.2.2.2.2 gL_acts_X6_whole rfl rfl rfl (by decide +kernel) ⟨Nat.le_of_ble_eq_true rfl, Nat.le_of_ble_eq_true rfl⟩) (q0 := q0) (ci := 4) rfl (hw0.1 μ).1 rfl hl.1 rfl (Nat.le_of_ble_eq_true rfl) dL_acts_331 ⟨Nat.le_trans (m := 1518) (by omega) (Nat.le_of_ble_eq_true rfl), Nat.le_trans (m := 9108) (by omega) (Nat.le_of_ble_eq_true rfl)⟩) (fun H locs hS => ?_)
            refine lv_istore (lv' := [(7, .int v50), (6, .int v49), (5, .int s0), (0, .ref (ad q0)), (2, .int x2), (3, .int x3), (4, .int x4)]) hx hb dL_acts_334 hl (by decide) rfl (fun ls hl => ?_)
            refine lv_aload_n hx hb dL_acts_336 rfl (lv_at hl 3 rfl) ?_
            obtain ⟨v51, μ52, ev51, h⟩ := ob2 h
            refine r_cim hS (r_runSW (mc := 1) (ms := 6) (As := [.ref (ad q0)]) (rest := []) X hS (c_L_abort l hE hst (w := w) (ad := ad) (μ := μ) (D := D) (cI := cI) (cG := cG) (cL := cL) hw0 ev51) (vx_cwSW (hh := [(0, 4, 5, 17)]) 1 X.1.2.2.2.2 gL_acts_L_abort rfl rfl rfl (by decide +kernel) ⟨Nat.le_of_ble_eq_true rfl, Nat.le_of_ble_eq_true rfl⟩) rfl hl.1 rfl (Nat.le_of_ble_eq_true rfl) dL_acts_337 ⟨Nat.le_trans (m := 1518) (by omega) (Nat.le_of_ble_eq_true rfl), Nat.le_trans (m := 9108) (by omega) (Nat.le_of_ble_eq_true rfl)⟩) (fun H locs hS => ?_)
            refine lv_istore (lv' := [(8, .int v51), (7, .int v50), (6, .int v49), (5, .int s0), (0, .ref (ad q0)), (2, .int x2), (3, .int x3), (4, .int x4)]) hx hb dL_acts_340 hl (by decide) rfl (fun ls hl => ?_)
            refine lv_iload hx hb dL_acts_342 (lv_at hl 0 rfl) ?_
            refine lv_sipush (v := (-2902)) hx hb dL_acts_344 (by decide) ?_
            refine lv_icmp_ne (tgt := 363) hx hb dL_acts_347 (by decide) (fun cc => ?_) (fun cc => ?_)
            · replace h := ie h cc
              refine lv_iload hx hb dL_acts_363 (lv_at hl 0 rfl) ?_
              refine lv_iload hx hb dL_acts_365 (lv_at hl 2 rfl) ?_
              refine lv_icmp_ne (tgt := 405) hx hb dL_acts_367 (by decide) (fun cc => ?_) (fun cc => ?_)
              · replace h := ie h cc
                exact hb405 μ52 _ _ (by omega) (by omega) _ _ _ hS (lv_sub hl [] rfl) h
              · replace h := it h cc
                refine lv_aload_n hx hb dL_acts_370 rfl (lv_at hl 4 rfl) ?_
                refine lv_iconst (v := 0) hx hb dL_acts_371 (by decide) ?_
                obtain ⟨v54, ev54, h⟩ := ob h
                refine r_ci hS (r_runV (As := [.int 0]) (rest := []) X hS (c_X6_whole l hE (w := w) (ad := ad) (μ := μ52) (D := D) (cI := cI) (cG := cG) (cL := cL) hw0 ev54) (cwV 1 X.1.2.2.2.2 gL_acts_X6_whole rfl rfl rfl (by decide +kernel) ⟨Nat.le_of_ble_eq_true rfl, Nat.le_of_ble_eq_true rfl⟩) (q0 := q0) (ci := 4) rfl (hw0.1 μ52).1 rfl hl.1 rfl (Nat.le_of_ble_eq_true rfl) dL_acts_372 ⟨Nat.le_trans (m := 1518) (by omega) (Nat.le_of_ble_eq_true rfl), Nat.le_trans (m := 9108) (by omega) (Nat.le_of_ble_eq_true rfl)⟩) (fun H locs hS => ?_)
                refine lv_iload hx hb dL_acts_375 (lv_at hl 1 rfl) ?_
                refine lv_iload hx hb dL_acts_377 (lv_at hl 2 rfl) ?_
                refine lv_iadd hx hb dL_acts_379 ?_
                refine lv_icmp_ne (tgt := 405) hx hb dL_acts_380 (by decide) (fun cc => ?_) (fun cc => ?_)
                · replace h := ie h cc
                  exact hb405 μ52 _ _ (by omega) (by omega) _ _ _ hS (lv_sub hl [] rfl) h
                · replace h := it h cc
                  refine lv_aload_n hx hb dL_acts_383 rfl (lv_at hl 4 rfl) ?_
                  refine lv_bipush (v := 9) hx hb dL_acts_384 (by decide) ?_
                  obtain ⟨v55, ev55, h⟩ := ob h
                  refine r_ci hS (r_runV (As := [.int 9]) (rest := []) X hS (c_X6_whole l hE (w := w) (ad := ad) (μ := μ52) (D := D) (cI := cI) (cG := cG) (cL := cL) hw0 ev55) (cwV 1 X.1.2.2.2.2 gL_acts_X6_whole rfl rfl rfl (by decide +kernel) ⟨Nat.le_of_ble_eq_true rfl, Nat.le_of_ble_eq_true rfl⟩) (q0 := q0) (ci := 4) rfl (hw0.1 μ52).1 rfl hl.1 rfl (Nat.le_of_ble_eq_true rfl) dL_acts_386 ⟨Nat.le_trans (m := 1518) (by omega) (Nat.le_of_ble_eq_true rfl), Nat.le_trans (m := 9108) (by omega) (Nat.le_of_ble_eq_true rfl)⟩) (fun H locs hS => ?_)
                  refine lv_if_ne (tgt := 405) hx hb dL_acts_389 (by decide) (fun cc => ?_) (fun cc => ?_)
                  · replace h := ie h cc
                    exact hb405 μ52 _ _ (by omega) (by omega) _ _ _ hS (lv_sub hl [] rfl) h
                  · replace h := it h cc
                    refine lv_aload_n hx hb dL_acts_392 rfl (lv_at hl 4 rfl) ?_
                    refine lv_bipush (v := 8) hx hb dL_acts_393 (by decide) ?_
                    obtain ⟨v56, ev56, h⟩ := ob h
                    refine r_ci hS (r_runV (As := [.int 8]) (rest := []) X hS (c_X6_whole l hE (w := w) (ad := ad) (μ := μ52) (D := D) (cI := cI) (cG := cG) (cL := cL) hw0 ev56) (cwV 1 X.1.2.2.2.2 gL_acts_X6_whole rfl rfl rfl (by decide +kernel) ⟨Nat.le_of_ble_eq_true rfl, Nat.le_of_ble_eq_true rfl⟩) (q0 := q0) (ci := 4) rfl (hw0.1 μ52).1 rfl hl.1 rfl (Nat.le_of_ble_eq_true rfl) dL_acts_395 ⟨Nat.le_trans (m := 1518) (by omega) (Nat.le_of_ble_eq_true rfl), Nat.le_trans (m := 9108) (by omega) (Nat.le_of_ble_eq_true rfl)⟩) (fun H locs hS => ?_)
                    refine lv_if_ne (tgt := 405) hx hb dL_acts_398 (by decide) (fun cc => ?_) (fun cc => ?_)
                    · replace h := ie h cc
                      exact hb405 μ52 _ _ (by omega) (by omega) _ _ _ hS (lv_sub hl [] rfl) h
                    · replace h := it h cc
                      refine lv_iconst (v := 1) hx hb dL_acts_401 (by decide) ?_
                      refine lv_goto (tgt := 406) hx hb dL_acts_402 (by decide) ?_
                      exact hb406 1 μ52 _ _ (by omega) (by omega) _ _ _ hS (lv_sub hl [] rfl) h
            · replace h := it h cc
              refine lv_iload hx hb dL_acts_350 (lv_at hl 3 rfl) ?_
              refine lv_if_ne (tgt := 359) hx hb dL_acts_352 (by decide) (fun cc => ?_) (fun cc => ?_)
              · replace h := ie h cc
                refine lv_iconst (v := 0) hx hb dL_acts_359 (by decide) ?_
                refine lv_goto (tgt := 406) hx hb dL_acts_360 (by decide) ?_
                exact hb406 0 μ52 _ _ (by omega) (by omega) _ _ _ hS (lv_sub hl [] rfl) h
              · replace h := it h cc
                refine lv_iconst (v := 1) hx hb dL_acts_355 (by decide) ?_
                refine lv_goto (tgt := 406) hx hb dL_acts_356 (by decide) ?_
                exact hb406 1 μ52 _ _ (by omega) (by omega) _ _ _ hS (lv_sub hl [] rfl) h
        · replace h := ie h cc
          refine lv_aload_n hx hb dL_acts_211 rfl (lv_at hl 1 rfl) ?_
          refine lv_aload_n hx hb dL_acts_212 rfl (lv_at hl 1 rfl) ?_
          refine lv_iconst (v := 1) hx hb dL_acts_213 (by decide) ?_
          refine lv_iconst (v := 3) hx hb dL_acts_214 (by decide) ?_
          obtain ⟨v57, ev57, h⟩ := ob h
          refine r_ci hS (r_runV (As := [.int 1, .int 3]) (rest := [.ref (ad q0)]) X hS (c_X6_root l hE (w := w) (ad := ad) (μ := μ) (D := D) (cI := cI) (cG := cG) (cL := cL) hw0 ev57) (cwV 2 X.1.2.2.2.2 gL_acts_X6_root rfl rfl rfl (by decide +kernel) ⟨Nat.le_of_ble_eq_true rfl, Nat.le_of_ble_eq_true rfl⟩) (q0 := q0) (ci := 4) rfl (hw0.1 μ).1 rfl hl.1 rfl (Nat.le_of_ble_eq_true rfl) dL_acts_215 ⟨Nat.le_trans (m := 1518) (by omega) (Nat.le_of_ble_eq_true rfl), Nat.le_trans (m := 9108) (by omega) (Nat.le_of_ble_eq_true rfl)⟩) (fun H locs hS => ?_)
          refine lv_iconst (v := 0) hx hb dL_acts_218 (by decide) ?_
          obtain ⟨v58, ev58, h⟩ := ob h
          refine r_ci hS (r_runV (As := [.int v57, .int 0]) (rest := []) X hS (c_X6_root l hE (w := w) (ad := ad) (μ := μ) (D := D) (cI := cI) (cG := cG) (cL := cL) hw0 ev58) (cwV 2 X.1.2.2.2.2 gL_acts_X6_root rfl rfl rfl (by decide +kernel) ⟨Nat.le_of_ble_eq_true rfl, Nat.le_of_ble_eq_true rfl⟩) (q0 := q0) (ci := 4) rfl (hw0.1 μ).1 rfl hl.1 rfl (Nat.le_of_ble_eq_true rfl) dL_acts_219 ⟨Nat.le_trans (m := 1518) (by omega) (Nat.le_of_ble_eq_true rfl), Nat.le_trans (m := 9108) (by omega) (Nat.le_of_ble_eq_true rfl)⟩) (fun H locs hS => ?_)
          refine lv_istore (lv' := [(6, .int v58), (5, .int s0), (0, .ref (ad q0)), (2, .int x2), (3, .int x3), (4, .int x4)]) hx hb dL_acts_222 hl (by decide) rfl (fun ls hl => ?_)
          refine lv_aload_n hx hb dL_acts_224 rfl (lv_at hl 2 rfl) ?_
          refine lv_iload_n hx hb dL_acts_225 rfl (lv_at hl 4 rfl) ?_
          refine lv_bipush (v := 12) hx hb dL_acts_226 (by decide) ?_
          refine lv_icmp_ne (tgt := 239) hx hb dL_acts_228 (by decide) (fun cc => ?_) (fun cc => ?_)
          · replace h := ie h cc
            refine lv_iconst (v := 3) hx hb dL_acts_239 (by decide) ?_
            exact hb240 x2 x4 3 μ _ _ (by omega) (by omega) _ _ _ hS (lv_sub hl [2, 3, 5] rfl) h
          · replace h := it h cc
            refine lv_iload_n hx hb dL_acts_231 rfl (lv_at hl 3 rfl) ?_
            refine lv_iconst (v := 4) hx hb dL_acts_232 (by decide) ?_
            obtain ⟨v71, ev71, h⟩ := ob h
            refine r_cim hS (r_runSm (mc := 0) (ms := 0) (As := [.int x2, .int 4]) (rest := [.ref (ad q0)]) X hS (c_L_low l hE (w := w) (ad := ad) (μ := μ) (D := D) (cI := cI) (cG := cG) (cL := cL) ev71) (va_cwS 2 X.1.2.2.2.2 gL_acts_L_low rfl rfl rfl (by decide +kernel) ⟨Nat.le_of_ble_eq_true rfl, Nat.le_of_ble_eq_true rfl⟩) rfl hl.1 rfl (Nat.le_of_ble_eq_true rfl) dL_acts_233 ⟨Nat.le_trans (m := 1518) (by omega) (Nat.le_of_ble_eq_true rfl), Nat.le_trans (m := 9108) (by omega) (Nat.le_of_ble_eq_true rfl)⟩) (fun H locs hS => ?_)
            refine lv_goto (tgt := 240) hx hb dL_acts_236 (by decide) ?_
            exact hb240 x2 x4 v71 μ _ _ (by omega) (by omega) _ _ _ hS (lv_sub hl [2, 3, 5] rfl) h
      · replace h := ie h cc
        refine lv_aload_n hx hb dL_acts_80 rfl (lv_at hl 1 rfl) ?_
        refine lv_iload hx hb dL_acts_81 (lv_at hl 4 rfl) ?_
        obtain ⟨v72, ev72, h⟩ := ob h
        refine r_cim hS (r_runSW (mc := 1) (ms := 6) (As := [.ref (ad q0), .int x4]) (rest := []) X hS (c_L_drafted l hE hst (w := w) (ad := ad) (μ := μ) (D := D) (cI := cI) (cG := cG) (cL := cL) hw0 ev72) (vx_cwSW (hh := [(0, 5, 6, 15), (0, 5, 11, 17)]) 2 X.1.2.2.2.2 gL_acts_L_drafted rfl rfl rfl (by decide +kernel) ⟨Nat.le_of_ble_eq_true rfl, Nat.le_of_ble_eq_true rfl⟩) rfl hl.1 rfl (Nat.le_of_ble_eq_true rfl) dL_acts_83 ⟨Nat.le_trans (m := 1518) (by omega) (Nat.le_of_ble_eq_true rfl), Nat.le_trans (m := 9108) (by omega) (Nat.le_of_ble_eq_true rfl)⟩) (fun H locs hS => ?_)
        refine lv_istore (lv' := [(6, .int v72), (5, .int s0), (0, .ref (ad q0)), (2, .int x2), (3, .int x3), (4, .int x4)]) hx hb dL_acts_86 hl (by decide) rfl (fun ls hl => ?_)
        refine lv_aload_n hx hb dL_acts_88 rfl (lv_at hl 2 rfl) ?_
        refine lv_bipush (v := 9) hx hb dL_acts_89 (by decide) ?_
        obtain ⟨v73, ev73, h⟩ := ob h
        refine r_ci hS (r_runV (As := [.int 9]) (rest := []) X hS (c_X6_whole l hE (w := w) (ad := ad) (μ := μ) (D := D) (cI := cI) (cG := cG) (cL := cL) hw0 ev73) (cwV 1 X.1.2.2.2.2 gL_acts_X6_whole rfl rfl rfl (by decide +kernel) ⟨Nat.le_of_ble_eq_true rfl, Nat.le_of_ble_eq_true rfl⟩) (q0 := q0) (ci := 4) rfl (hw0.1 μ).1 rfl hl.1 rfl (Nat.le_of_ble_eq_true rfl) dL_acts_91 ⟨Nat.le_trans (m := 1518) (by omega) (Nat.le_of_ble_eq_true rfl), Nat.le_trans (m := 9108) (by omega) (Nat.le_of_ble_eq_true rfl)⟩) (fun H locs hS => ?_)
        refine lv_istore (lv' := [(7, .int v73), (6, .int v72), (5, .int s0), (0, .ref (ad q0)), (2, .int x2), (3, .int x3), (4, .int x4)]) hx hb dL_acts_94 hl (by decide) rfl (fun ls hl => ?_)
        refine lv_aload_n hx hb dL_acts_96 rfl (lv_at hl 3 rfl) ?_
        refine lv_iload hx hb dL_acts_97 (lv_at hl 6 rfl) ?_
        obtain ⟨v74, μ75, ev74, h⟩ := ob2 h
        refine r_cim hS (r_runSW (mc := 1) (ms := 6) (As := [.ref (ad q0), .int x4]) (rest := []) X hS (c_L_remove l hE hst (w := w) (ad := ad) (μ := μ) (D := D) (cI := cI) (cG := cG) (cL := cL) hw0 ev74) (vx_cwSW (hh := [(0, 5, 6, 15), (0, 5, 11, 17)]) 2 X.1.2.2.2.2 gL_acts_L_remove rfl rfl rfl (by decide +kernel) ⟨Nat.le_of_ble_eq_true rfl, Nat.le_of_ble_eq_true rfl⟩) rfl hl.1 rfl (Nat.le_of_ble_eq_true rfl) dL_acts_99 ⟨Nat.le_trans (m := 1518) (by omega) (Nat.le_of_ble_eq_true rfl), Nat.le_trans (m := 9108) (by omega) (Nat.le_of_ble_eq_true rfl)⟩) (fun H locs hS => ?_)
        refine lv_istore (lv' := [(8, .int v74), (7, .int v73), (6, .int v72), (5, .int s0), (0, .ref (ad q0)), (2, .int x2), (3, .int x3), (4, .int x4)]) hx hb dL_acts_102 hl (by decide) rfl (fun ls hl => ?_)
        refine lv_iload hx hb dL_acts_104 (lv_at hl 0 rfl) ?_
        refine lv_sipush (v := (-2902)) hx hb dL_acts_106 (by decide) ?_
        refine lv_icmp_ne (tgt := 142) hx hb dL_acts_109 (by decide) (fun cc => ?_) (fun cc => ?_)
        · replace h := ie h cc
          refine lv_iload hx hb dL_acts_142 (lv_at hl 0 rfl) ?_
          refine lv_iload hx hb dL_acts_144 (lv_at hl 2 rfl) ?_
          refine lv_icmp_ne (tgt := 203) hx hb dL_acts_146 (by decide) (fun cc => ?_) (fun cc => ?_)
          · replace h := ie h cc
            exact hb203 μ75 _ _ (by omega) (by omega) _ _ _ hS (lv_sub hl [] rfl) h
          · replace h := it h cc
            refine lv_iload hx hb dL_acts_149 (lv_at hl 2 rfl) ?_
            refine lv_sipush (v := (-1000)) hx hb dL_acts_151 (by decide) ?_
            refine lv_icmp_eq (tgt := 203) hx hb dL_acts_154 (by decide) (fun cc => ?_) (fun cc => ?_)
            · replace h := it h cc
              exact hb203 μ75 _ _ (by omega) (by omega) _ _ _ hS (lv_sub hl [] rfl) h
            · replace h := ie h cc
              refine lv_aload_n hx hb dL_acts_157 rfl (lv_at hl 4 rfl) ?_
              refine lv_iload hx hb dL_acts_158 (lv_at hl 7 rfl) ?_
              obtain ⟨v77, ev77, h⟩ := ob h
              refine r_ci hS (r_runV (As := [.int x4]) (rest := []) X hS (c_X6_drafted l hE (w := w) (ad := ad) (μ := μ75) (D := D) (cI := cI) (cG := cG) (cL := cL) hw0 ev77) (cwV 1 X.1.2.2.2.2 gL_acts_X6_drafted rfl rfl rfl (by decide +kernel) ⟨Nat.le_of_ble_eq_true rfl, Nat.le_of_ble_eq_true rfl⟩) (q0 := q0) (ci := 4) rfl (hw0.1 μ75).1 rfl hl.1 rfl (Nat.le_of_ble_eq_true rfl) dL_acts_160 ⟨Nat.le_trans (m := 1518) (by omega) (Nat.le_of_ble_eq_true rfl), Nat.le_trans (m := 9108) (by omega) (Nat.le_of_ble_eq_true rfl)⟩) (fun H locs hS => ?_)
              refine lv_sipush (v := (-1000)) hx hb dL_acts_163 (by decide) ?_
              refine lv_icmp_ne (tgt := 203) hx hb dL_acts_166 (by decide) (fun cc => ?_) (fun cc => ?_)
              · replace h := ie h cc
                exact hb203 μ75 _ _ (by omega) (by omega) _ _ _ hS (lv_sub hl [] rfl) h
              · replace h := it h cc
                refine lv_aload_n hx hb dL_acts_169 rfl (lv_at hl 4 rfl) ?_
                refine lv_bipush (v := 9) hx hb dL_acts_170 (by decide) ?_
                obtain ⟨v78, ev78, h⟩ := ob h
                refine r_ci hS (r_runV (As := [.int 9]) (rest := []) X hS (c_X6_whole l hE (w := w) (ad := ad) (μ := μ75) (D := D) (cI := cI) (cG := cG) (cL := cL) hw0 ev78) (cwV 1 X.1.2.2.2.2 gL_acts_X6_whole rfl rfl rfl (by decide +kernel) ⟨Nat.le_of_ble_eq_true rfl, Nat.le_of_ble_eq_true rfl⟩) (q0 := q0) (ci := 4) rfl (hw0.1 μ75).1 rfl hl.1 rfl (Nat.le_of_ble_eq_true rfl) dL_acts_172 ⟨Nat.le_trans (m := 1518) (by omega) (Nat.le_of_ble_eq_true rfl), Nat.le_trans (m := 9108) (by omega) (Nat.le_of_ble_eq_true rfl)⟩) (fun H locs hS => ?_)
                refine lv_iload hx hb dL_acts_175 (lv_at hl 1 rfl) ?_
                refine lv_iconst (v := 2) hx hb dL_acts_177 (by decide) ?_
                refine lv_iadd hx hb dL_acts_178 ?_
                refine lv_icmp_gt (tgt := 203) hx hb dL_acts_179 (by decide) (fun cc => ?_) (fun cc => ?_)
                · replace h := it h cc
                  exact hb203 μ75 _ _ (by omega) (by omega) _ _ _ hS (lv_sub hl [] rfl) h
                · replace h := ie h cc
                  refine lv_aload_n hx hb dL_acts_182 rfl (lv_at hl 4 rfl) ?_
                  refine lv_bipush (v := 9) hx hb dL_acts_183 (by decide) ?_
                  obtain ⟨v79, ev79, h⟩ := ob h
                  refine r_ci hS (r_runV (As := [.int 9]) (rest := []) X hS (c_X6_whole l hE (w := w) (ad := ad) (μ := μ75) (D := D) (cI := cI) (cG := cG) (cL := cL) hw0 ev79) (cwV 1 X.1.2.2.2.2 gL_acts_X6_whole rfl rfl rfl (by decide +kernel) ⟨Nat.le_of_ble_eq_true rfl, Nat.le_of_ble_eq_true rfl⟩) (q0 := q0) (ci := 4) rfl (hw0.1 μ75).1 rfl hl.1 rfl (Nat.le_of_ble_eq_true rfl) dL_acts_185 ⟨Nat.le_trans (m := 1518) (by omega) (Nat.le_of_ble_eq_true rfl), Nat.le_trans (m := 9108) (by omega) (Nat.le_of_ble_eq_true rfl)⟩) (fun H locs hS => ?_)
                  refine lv_iload hx hb dL_acts_188 (lv_at hl 1 rfl) ?_
                  refine lv_icmp_ge (tgt := 199) hx hb dL_acts_190 (by decide) (fun cc => ?_) (fun cc => ?_)
                  · replace h := it h cc
                    exact hb199 μ75 _ _ (by omega) (by omega) _ _ _ hS (lv_sub hl [] rfl) h
                  · replace h := ie h cc
                    refine lv_iload hx hb dL_acts_193 (lv_at hl 1 rfl) ?_
                    refine lv_iconst (v := 1) hx hb dL_acts_195 (by decide) ?_
                    refine lv_icmp_le (tgt := 203) hx hb dL_acts_196 (by decide) (fun cc => ?_) (fun cc => ?_)
                    · replace h := it h cc
                      exact hb203 μ75 _ _ (by omega) (by omega) _ _ _ hS (lv_sub hl [] rfl) h
                    · replace h := ie h cc
                      exact hb199 μ75 _ _ (by omega) (by omega) _ _ _ hS (lv_sub hl [] rfl) h
        · replace h := it h cc
          refine lv_aload_n hx hb dL_acts_112 rfl (lv_at hl 4 rfl) ?_
          refine lv_iload hx hb dL_acts_113 (lv_at hl 7 rfl) ?_
          obtain ⟨v80, ev80, h⟩ := ob h
          refine r_cim hS (r_runSW (mc := 1) (ms := 6) (As := [.ref (ad q0), .int x4]) (rest := []) X hS (c_L_drafted l hE hst (w := w) (ad := ad) (μ := μ75) (D := D) (cI := cI) (cG := cG) (cL := cL) hw0 ev80) (vx_cwSW (hh := [(0, 5, 6, 15), (0, 5, 11, 17)]) 2 X.1.2.2.2.2 gL_acts_L_drafted rfl rfl rfl (by decide +kernel) ⟨Nat.le_of_ble_eq_true rfl, Nat.le_of_ble_eq_true rfl⟩) rfl hl.1 rfl (Nat.le_of_ble_eq_true rfl) dL_acts_115 ⟨Nat.le_trans (m := 1518) (by omega) (Nat.le_of_ble_eq_true rfl), Nat.le_trans (m := 9108) (by omega) (Nat.le_of_ble_eq_true rfl)⟩) (fun H locs hS => ?_)
          refine lv_iload hx hb dL_acts_118 (lv_at hl 2 rfl) ?_
          refine lv_icmp_ne (tgt := 138) hx hb dL_acts_120 (by decide) (fun cc => ?_) (fun cc => ?_)
          · replace h := ie h cc
            exact hb138 μ75 _ _ (by omega) (by omega) _ _ _ hS (lv_sub hl [] rfl) h
          · replace h := it h cc
            refine lv_aload_n hx hb dL_acts_123 rfl (lv_at hl 4 rfl) ?_
            refine lv_bipush (v := 9) hx hb dL_acts_124 (by decide) ?_
            obtain ⟨v81, ev81, h⟩ := ob h
            refine r_ci hS (r_runV (As := [.int 9]) (rest := []) X hS (c_X6_whole l hE (w := w) (ad := ad) (μ := μ75) (D := D) (cI := cI) (cG := cG) (cL := cL) hw0 ev81) (cwV 1 X.1.2.2.2.2 gL_acts_X6_whole rfl rfl rfl (by decide +kernel) ⟨Nat.le_of_ble_eq_true rfl, Nat.le_of_ble_eq_true rfl⟩) (q0 := q0) (ci := 4) rfl (hw0.1 μ75).1 rfl hl.1 rfl (Nat.le_of_ble_eq_true rfl) dL_acts_126 ⟨Nat.le_trans (m := 1518) (by omega) (Nat.le_of_ble_eq_true rfl), Nat.le_trans (m := 9108) (by omega) (Nat.le_of_ble_eq_true rfl)⟩) (fun H locs hS => ?_)
            refine lv_iload hx hb dL_acts_129 (lv_at hl 1 rfl) ?_
            refine lv_icmp_ne (tgt := 138) hx hb dL_acts_131 (by decide) (fun cc => ?_) (fun cc => ?_)
            · replace h := ie h cc
              exact hb138 μ75 _ _ (by omega) (by omega) _ _ _ hS (lv_sub hl [] rfl) h
            · replace h := it h cc
              refine lv_iconst (v := 1) hx hb dL_acts_134 (by decide) ?_
              refine lv_goto (tgt := 204) hx hb dL_acts_135 (by decide) ?_
              exact hb204 1 μ75 _ _ (by omega) (by omega) _ _ _ hS (lv_sub hl [] rfl) h
    · replace h := ie h cc
      refine lv_aload_n hx hb dL_acts_53 rfl (lv_at hl 1 rfl) ?_
      refine lv_iload hx hb dL_acts_54 (lv_at hl 4 rfl) ?_
      refine lv_iload_n hx hb dL_acts_56 rfl (lv_at hl 2 rfl) ?_
      refine lv_bipush (v := 7) hx hb dL_acts_57 (by decide) ?_
      refine lv_ishr hx hb dL_acts_59 ?_
      refine lv_sipush (v := 1999) hx hb dL_acts_60 (by decide) ?_
      obtain ⟨v82, ev82, h⟩ := ob h
      refine r_cim hS (r_runSm (mc := 0) (ms := 0) (As := [.int (x2 >>> (7 &&& 31)), .int 1999]) (rest := [.int x4, .ref (ad q0)]) X hS (c_L_low l hE (w := w) (ad := ad) (μ := μ) (D := D) (cI := cI) (cG := cG) (cL := cL) ev82) (va_cwS 2 X.1.2.2.2.2 gL_acts_L_low rfl rfl rfl (by decide +kernel) ⟨Nat.le_of_ble_eq_true rfl, Nat.le_of_ble_eq_true rfl⟩) rfl hl.1 rfl (Nat.le_of_ble_eq_true rfl) dL_acts_63 ⟨Nat.le_trans (m := 1518) (by omega) (Nat.le_of_ble_eq_true rfl), Nat.le_trans (m := 9108) (by omega) (Nat.le_of_ble_eq_true rfl)⟩) (fun H locs hS => ?_)
      refine lv_sipush (v := 999) hx hb dL_acts_66 (by decide) ?_
      refine lv_isub hx hb dL_acts_69 ?_
      obtain ⟨v83, μ84, ev83, h⟩ := ob2 h
      refine r_cim hS (r_runSm (mc := 4) (ms := 24) (As := [.ref (ad q0), .int x4, .int (v82 - 999)]) (rest := []) X hS (c_L_puts l hE hst (w := w) (ad := ad) (μ := μ) (D := D) (cI := cI) (cG := cG) (cL := cL) hw0 ev83) (va_cwS 3 X.1.2.2.2.2 gL_acts_L_puts rfl rfl rfl (by decide +kernel) ⟨Nat.le_of_ble_eq_true rfl, Nat.le_of_ble_eq_true rfl⟩) rfl hl.1 rfl (Nat.le_of_ble_eq_true rfl) dL_acts_70 ⟨Nat.le_trans (m := 1518) (by omega) (Nat.le_of_ble_eq_true rfl), Nat.le_trans (m := 9108) (by omega) (Nat.le_of_ble_eq_true rfl)⟩) (fun H locs hS => ?_)
      obtain ⟨v85, ev85, h⟩ := ob h
      obtain ⟨ezv85, eov85⟩ := zr_ok ev85
      rw [ezv85]
      obtain ⟨rfl, rfl⟩ := pr2 h
      exact r_zretM X hS hr hlk eov85 (by omega) (by omega) dL_acts_73
  have hb25 : ∀ (x2 : Int32) (x3 : Int32) (s0 : Int32) (s1 : Int32) (μ : Mem) (cells slots : Nat), cells + 1518 ≤ 1518 → slots + 9108 ≤ 9108 → ∀ (H : Heap) (locs : List Loc) (ls : Array Slot), HS D A (w μ) s.heap H locs → lv_has ls 11 [(0, .ref (ad q0)), (2, .int x2), (3, .int x3)] → f_L_acts_b25 q0 x2 x3 s0 s1 μ = some (r, μ') → W p l e (headSpec wsL_acts (rmc 10 1518 9108 202)).room s m args below meth c H locs cells slots (MQ below (PI D A (w μ') r) args s 1518 9108 A) (F0 m 25 ls [.int s0, .int s1]) := by
    intro x2 x3 s0 s1 μ cells slots hc hs H locs ls hS hl h
    unfold f_L_acts_b25 at h
    obtain ⟨v3, ev3, h⟩ := ob h
    refine r_cim hS (r_runSm (mc := 0) (ms := 0) (As := [.int s1, .int s0]) (rest := []) X hS (c_L_low l hE (w := w) (ad := ad) (μ := μ) (D := D) (cI := cI) (cG := cG) (cL := cL) ev3) (va_cwS 2 X.1.2.2.2.2 gL_acts_L_low rfl rfl rfl (by decide +kernel) ⟨Nat.le_of_ble_eq_true rfl, Nat.le_of_ble_eq_true rfl⟩) rfl hl.1 rfl (Nat.le_of_ble_eq_true rfl) dL_acts_25 ⟨Nat.le_trans (m := 1518) (by omega) (Nat.le_of_ble_eq_true rfl), Nat.le_trans (m := 9108) (by omega) (Nat.le_of_ble_eq_true rfl)⟩) (fun H locs hS => ?_)
    refine lv_istore (lv' := [(4, .int v3), (0, .ref (ad q0)), (2, .int x2), (3, .int x3)]) hx hb dL_acts_28 hl (by decide) rfl (fun ls hl => ?_)
    refine lv_aload_n hx hb dL_acts_30 rfl (lv_at hl 1 rfl) ?_
    refine lv_bipush (v := 8) hx hb dL_acts_31 (by decide) ?_
    obtain ⟨v4, ev4, h⟩ := ob h
    refine r_ci hS (r_runV (As := [.int 8]) (rest := []) X hS (c_X6_whole l hE (w := w) (ad := ad) (μ := μ) (D := D) (cI := cI) (cG := cG) (cL := cL) hw0 ev4) (cwV 1 X.1.2.2.2.2 gL_acts_X6_whole rfl rfl rfl (by decide +kernel) ⟨Nat.le_of_ble_eq_true rfl, Nat.le_of_ble_eq_true rfl⟩) (q0 := q0) (ci := 4) rfl (hw0.1 μ).1 rfl hl.1 rfl (Nat.le_of_ble_eq_true rfl) dL_acts_33 ⟨Nat.le_trans (m := 1518) (by omega) (Nat.le_of_ble_eq_true rfl), Nat.le_trans (m := 9108) (by omega) (Nat.le_of_ble_eq_true rfl)⟩) (fun H locs hS => ?_)
    refine lv_iconst (v := 1) hx hb dL_acts_36 (by decide) ?_
    refine lv_icmp_ne (tgt := 44) hx hb dL_acts_37 (by decide) (fun cc => ?_) (fun cc => ?_)
    · replace h := ie h cc
      refine lv_iconst (v := 0) hx hb dL_acts_44 (by decide) ?_
      exact hb45 x2 x3 v3 0 μ _ _ (by omega) (by omega) _ _ _ hS (lv_sub hl [1, 2, 3, 0] rfl) h
    · replace h := it h cc
      refine lv_iconst (v := 1) hx hb dL_acts_40 (by decide) ?_
      refine lv_goto (tgt := 45) hx hb dL_acts_41 (by decide) ?_
      exact hb45 x2 x3 v3 1 μ _ _ (by omega) (by omega) _ _ _ hS (lv_sub hl [1, 2, 3, 0] rfl) h
  have key : ∀ (cells slots : Nat), cells + 1518 ≤ 1518 → slots + 9108 ≤ 9108 → W p l e (headSpec wsL_acts (rmc 10 1518 9108 202)).room s m args below meth c s.heap [] cells slots (MQ below (PI D A (w μ') r) args s 1518 9108 A) (F0 m 0 ls []) := by
    intro cells slots hc hs
    unfold f_L_acts at h
    refine lv_iload_n hx hb dL_acts_0 rfl (lv_at hl 1 rfl) ?_
    refine lv_bipush (v := 20) hx hb dL_acts_1 (by decide) ?_
    obtain ⟨v1, ev1, h⟩ := ob h
    refine r_cim hS (r_runSm (mc := 0) (ms := 0) (As := [.int a1, .int 20]) (rest := []) X hS (c_L_low l hE (w := w) (ad := ad) (μ := μ) (D := D) (cI := cI) (cG := cG) (cL := cL) ev1) (va_cwS 2 X.1.2.2.2.2 gL_acts_L_low rfl rfl rfl (by decide +kernel) ⟨Nat.le_of_ble_eq_true rfl, Nat.le_of_ble_eq_true rfl⟩) rfl hl.1 rfl (Nat.le_of_ble_eq_true rfl) dL_acts_3 ⟨Nat.le_trans (m := 1518) (by omega) (Nat.le_of_ble_eq_true rfl), Nat.le_trans (m := 9108) (by omega) (Nat.le_of_ble_eq_true rfl)⟩) (fun H locs hS => ?_)
    refine lv_istore_n (lv' := [(3, .int v1), (0, .ref (ad q0)), (1, .int a1), (2, .int a2)]) hx hb dL_acts_6 rfl hl (by decide) rfl (fun ls hl => ?_)
    refine lv_iload_n hx hb dL_acts_7 rfl (lv_at hl 3 rfl) ?_
    refine lv_iload_n hx hb dL_acts_8 rfl (lv_at hl 2 rfl) ?_
    refine lv_iconst (v := 5) hx hb dL_acts_9 (by decide) ?_
    refine lv_ishr hx hb dL_acts_10 ?_
    refine lv_iconst (v := 4) hx hb dL_acts_11 (by decide) ?_
    obtain ⟨v2, ev2, h⟩ := ob h
    refine r_cim hS (r_runSm (mc := 0) (ms := 0) (As := [.int (a1 >>> (5 &&& 31)), .int 4]) (rest := [.int a2]) X hS (c_L_low l hE (w := w) (ad := ad) (μ := μ) (D := D) (cI := cI) (cG := cG) (cL := cL) ev2) (va_cwS 2 X.1.2.2.2.2 gL_acts_L_low rfl rfl rfl (by decide +kernel) ⟨Nat.le_of_ble_eq_true rfl, Nat.le_of_ble_eq_true rfl⟩) rfl hl.1 rfl (Nat.le_of_ble_eq_true rfl) dL_acts_12 ⟨Nat.le_trans (m := 1518) (by omega) (Nat.le_of_ble_eq_true rfl), Nat.le_trans (m := 9108) (by omega) (Nat.le_of_ble_eq_true rfl)⟩) (fun H locs hS => ?_)
    refine lv_if_ne (tgt := 23) hx hb dL_acts_15 (by decide) (fun cc => ?_) (fun cc => ?_)
    · replace h := ie h cc
      refine lv_bipush (v := 26) hx hb dL_acts_23 (by decide) ?_
      exact hb25 a2 v1 26 a2 μ _ _ (by omega) (by omega) _ _ _ hS (lv_sub hl [1, 3, 0] rfl) h
    · replace h := it h cc
      refine lv_bipush (v := 100) hx hb dL_acts_18 (by decide) ?_
      refine lv_goto (tgt := 25) hx hb dL_acts_20 (by decide) ?_
      exact hb25 a2 v1 100 a2 μ _ _ (by omega) (by omega) _ _ _ hS (lv_sub hl [1, 3, 0] rfl) h
  exact key 0 0 (by decide) (by decide)
