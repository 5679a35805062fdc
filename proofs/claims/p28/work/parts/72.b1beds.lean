def f_L_beds_b507  (s0 : Int32) (μ : Mem) : Option (Int32 × Mem) := (zr s0).bind (fun v4 => (some (v4, μ)))
def f_L_beds_b506   (μ : Mem) : Option (Int32 × Mem) := f_L_beds_b507 0 μ
def f_L_beds_b499  (s0 : Int32) (s1 : Int32) (μ : Mem) : Option (Int32 × Mem) := (if s1 = s0 then f_L_beds_b507 1 μ else f_L_beds_b506 μ)
def f_L_beds_b486  (x2 : Int32) (s0 : Int32) (μ : Mem) : Option (Int32 × Mem) := (rd 3 (μ 85) 0).bind (fun v14 => (if (v14 + x2) = 0 then f_L_beds_b499 1 s0 μ else f_L_beds_b499 0 s0 μ))
def f_L_beds_b405  (x2 : Int32) (x3 : Int32) (x4 : Int32) (μ : Mem) : Option (Int32 × Mem) := (rd 3 (μ 85) 0).bind (fun v2 => (f_X6_whole 0 0 μ).bind (fun v3 => (if v2 = v3 then (rd 3 (μ 85) 1).bind (fun v5 => (f_X6_whole 0 1 μ).bind (fun v6 => (if v5 = v6 then (rd 3 (μ 85) 2).bind (fun v7 => (f_X6_whole 0 2 μ).bind (fun v8 => (if v7 = v8 then (rd 3 (μ 85) 0).bind (fun v9 => (rd 3 (μ 85) 1).bind (fun v10 => (rd 3 (μ 85) 2).bind (fun v11 => (if ((v9 + v10) + v11) = 32 then (f_X6_whole 0 3 μ).bind (fun v12 => (if x2 = v12 then (f_X6_whole 0 9 μ).bind (fun v13 => (if x3 = v13 then (if x4 = (-1000) then f_L_beds_b486 x2 1 μ else f_L_beds_b486 x2 0 μ) else f_L_beds_b506 μ)) else f_L_beds_b506 μ)) else f_L_beds_b506 μ)))) else f_L_beds_b506 μ))) else f_L_beds_b506 μ))) else f_L_beds_b506 μ)))
def f_L_beds_b399  (k271 : Int32 → Int32 → Int32 → Int32 → Mem → Option (Int32 × Mem)) (x2 : Int32) (x3 : Int32) (x4 : Int32) (x5 : Int32) (μ : Mem) : Option (Int32 × Mem) := k271 x2 x3 x4 (x5 + 1) μ
def f_L_beds_b397   (μ : Mem) : Option (Int32 × Mem) := (some (0, μ))
def f_L_beds_b319  (k271 : Int32 → Int32 → Int32 → Int32 → Mem → Option (Int32 × Mem)) (x2 : Int32) (x3 : Int32) (x4 : Int32) (x5 : Int32) (x6 : Int32) (s0 : Int32) (μ : Mem) : Option (Int32 × Mem) := (f_X6_bed 0 x4 0 μ).bind (fun v17 => (if v17 = 0 then (if s0 = 0 then (if x6 = 0 then f_L_beds_b399 k271 x2 x3 x4 x5 μ else (if x4 ≤ x5 then f_L_beds_b399 k271 x2 x3 x4 x5 μ else f_L_beds_b397 μ)) else f_L_beds_b397 μ) else (if s0 = 0 then f_L_beds_b399 k271 x2 x3 x4 x5 μ else (f_X6_bed 0 x5 3 μ).bind (fun v18 => (f_X6_bed 0 x4 3 μ).bind (fun v19 => (if v18 < v19 then f_L_beds_b397 μ else (f_X6_bed 0 x5 3 μ).bind (fun v20 => (f_X6_bed 0 x4 3 μ).bind (fun v21 => (if v20 = v21 then (if x4 ≤ x5 then f_L_beds_b399 k271 x2 x3 x4 x5 μ else f_L_beds_b397 μ) else f_L_beds_b399 k271 x2 x3 x4 x5 μ)))))))))
def f_L_beds_b301  (k271 : Int32 → Int32 → Int32 → Int32 → Mem → Option (Int32 × Mem)) (x2 : Int32) (x3 : Int32) (x4 : Int32) (x5 : Int32) (s0 : Int32) (μ : Mem) : Option (Int32 × Mem) := (f_X6_bed 0 x5 4 μ).bind (fun v16 => (if v16 = 1 then f_L_beds_b319 k271 x2 x3 x4 x5 s0 1 μ else f_L_beds_b319 k271 x2 x3 x4 x5 s0 0 μ))
def f_L_beds_b271   : Nat → Int32 → Int32 → Int32 → Int32 → Mem → Option (Int32 × Mem)
  | 0, _, _, _, _, _ => none
  | fuel271 + 1, x2, x3, x4, x5, μ => (if 32 ≤ x5 then f_L_beds_b405 x2 x3 x4 μ else (if x4 = (-1000) then f_L_beds_b405 x2 x3 x4 μ else (f_X6_bed 0 x5 0 μ).bind (fun v15 => (if v15 = 0 then f_L_beds_b301 (f_L_beds_b271 fuel271) x2 x3 x4 x5 1 μ else f_L_beds_b301 (f_L_beds_b271 fuel271) x2 x3 x4 x5 0 μ))))
def f_L_beds_b254   (μ : Mem) : Option (Int32 × Mem) := (some (0, μ))
def f_L_beds_b251  (k11 : Int32 → Int32 → Int32 → Mem → Option (Int32 × Mem)) (x2 : Int32) (x3 : Int32) (x4 : Int32) (s0 : Int32) (s1 : Int32) (μ : Mem) : Option (Int32 × Mem) := (if s1 = s0 then k11 x2 x3 (x4 + 1) μ else f_L_beds_b254 μ)
def f_L_beds_b250  (k11 : Int32 → Int32 → Int32 → Mem → Option (Int32 × Mem)) (x2 : Int32) (x3 : Int32) (x4 : Int32) (s0 : Int32) (μ : Mem) : Option (Int32 × Mem) := f_L_beds_b251 k11 x2 x3 x4 0 s0 μ
def f_L_beds_b225  (k11 : Int32 → Int32 → Int32 → Mem → Option (Int32 × Mem)) (x2 : Int32) (x3 : Int32) (x4 : Int32) (x5 : Int32) (s0 : Int32) (μ : Mem) : Option (Int32 × Mem) := (if x5 = 2 then (f_X6_bed 0 x4 3 μ).bind (fun v32 => (f_X6_whole 0 4 μ).bind (fun v33 => (if v33 < v32 then f_L_beds_b250 k11 x2 x3 x4 s0 μ else f_L_beds_b251 k11 x2 x3 x4 1 s0 μ))) else f_L_beds_b250 k11 x2 x3 x4 s0 μ)
def f_L_beds_b209  (k11 : Int32 → Int32 → Int32 → Mem → Option (Int32 × Mem)) (x2 : Int32) (x3 : Int32) (x4 : Int32) (x5 : Int32) (μ : Mem) : Option (Int32 × Mem) := (f_X6_bed 0 x4 4 μ).bind (fun v31 => (if v31 = 1 then f_L_beds_b225 k11 x2 x3 x4 x5 1 μ else f_L_beds_b225 k11 x2 x3 x4 x5 0 μ))
def f_L_beds_b192  (k11 : Int32 → Int32 → Int32 → Mem → Option (Int32 × Mem)) (x2 : Int32) (x3 : Int32) (x4 : Int32) (x5 : Int32) (μ : Mem) : Option (Int32 × Mem) := (f_X6_bed 0 x4 5 μ).bind (fun v30 => (if v30 = 1 then (if x5 = 1 then f_L_beds_b209 k11 x2 x3 x4 x5 μ else f_L_beds_b254 μ) else f_L_beds_b209 k11 x2 x3 x4 x5 μ))
def f_L_beds_b174  (k11 : Int32 → Int32 → Int32 → Mem → Option (Int32 × Mem)) (x2 : Int32) (x3 : Int32) (x4 : Int32) (x5 : Int32) (x6 : Int32) (x7 : Int32) (μ : Mem) : Option (Int32 × Mem) := (if x6 = 1 then (if x7 < 0 then f_L_beds_b254 μ else (if 6 < x7 then f_L_beds_b254 μ else f_L_beds_b192 k11 x2 x3 x4 x5 μ)) else f_L_beds_b192 k11 x2 x3 x4 x5 μ)
def f_L_beds_b154  (k11 : Int32 → Int32 → Int32 → Mem → Option (Int32 × Mem)) (x2 : Int32) (x3 : Int32) (x4 : Int32) (x5 : Int32) (x6 : Int32) (x7 : Int32) (s0 : Int32) (s1 : Int32) (μ : Mem) : Option (Int32 × Mem) := (if s1 = s0 then (if x6 = 0 then (if x7 < 1 then f_L_beds_b254 μ else (if 4 < x7 then f_L_beds_b254 μ else f_L_beds_b174 k11 x2 x3 x4 x5 x6 x7 μ)) else f_L_beds_b174 k11 x2 x3 x4 x5 x6 x7 μ) else f_L_beds_b254 μ)
def f_L_beds_b144  (k11 : Int32 → Int32 → Int32 → Mem → Option (Int32 × Mem)) (x2 : Int32) (x3 : Int32) (x4 : Int32) (x5 : Int32) (x6 : Int32) (x7 : Int32) (s0 : Int32) (μ : Mem) : Option (Int32 × Mem) := (if x5 = 0 then f_L_beds_b154 k11 x2 x3 x4 x5 x6 x7 1 s0 μ else f_L_beds_b154 k11 x2 x3 x4 x5 x6 x7 0 s0 μ)
def f_L_beds_b128  (k11 : Int32 → Int32 → Int32 → Mem → Option (Int32 × Mem)) (x2 : Int32) (x3 : Int32) (x4 : Int32) (x5 : Int32) (x6 : Int32) (x7 : Int32) (s0 : Int32) (s1 : Int32) (μ : Mem) : Option (Int32 × Mem) := (if s1 = s0 then (if x7 = (-1000) then f_L_beds_b144 k11 x2 x3 x4 x5 x6 x7 1 μ else f_L_beds_b144 k11 x2 x3 x4 x5 x6 x7 0 μ) else f_L_beds_b254 μ)
def f_L_beds_b118  (k11 : Int32 → Int32 → Int32 → Mem → Option (Int32 × Mem)) (x2 : Int32) (x3 : Int32) (x4 : Int32) (x5 : Int32) (x6 : Int32) (x7 : Int32) (s0 : Int32) (μ : Mem) : Option (Int32 × Mem) := (if x5 = 0 then f_L_beds_b128 k11 x2 x3 x4 x5 x6 x7 1 s0 μ else f_L_beds_b128 k11 x2 x3 x4 x5 x6 x7 0 s0 μ)
def f_L_beds_b102  (k11 : Int32 → Int32 → Int32 → Mem → Option (Int32 × Mem)) (x2 : Int32) (x3 : Int32) (x4 : Int32) (x5 : Int32) (x6 : Int32) (x7 : Int32) (s0 : Int32) (s1 : Int32) (μ : Mem) : Option (Int32 × Mem) := (if s1 = s0 then f_L_beds_b254 μ else (if x6 = (-1000) then f_L_beds_b118 k11 x2 x3 x4 x5 x6 x7 1 μ else f_L_beds_b118 k11 x2 x3 x4 x5 x6 x7 0 μ))
def f_L_beds_b91  (k11 : Int32 → Int32 → Int32 → Mem → Option (Int32 × Mem)) (x2 : Int32) (x3 : Int32) (x4 : Int32) (x5 : Int32) (x6 : Int32) (x7 : Int32) (s0 : Int32) (μ : Mem) : Option (Int32 × Mem) := (if x5 = 2 then f_L_beds_b102 k11 x2 x3 x4 x5 x6 x7 1 s0 μ else f_L_beds_b102 k11 x2 x3 x4 x5 x6 x7 0 s0 μ)
def f_L_beds_b11   : Nat → Int32 → Int32 → Int32 → Mem → Option (Int32 × Mem)
  | 0, _, _, _, _ => none
  | fuel11 + 1, x2, x3, x4, μ => (if 32 ≤ x4 then (f_X6_nextBed 0 μ).bind (fun v1 => f_L_beds_b271 33 x2 x3 v1 0 μ) else (f_X6_bed 0 x4 0 μ).bind (fun v22 => (rd 3 (μ 85) v22).bind (fun v23 => (wr μ 85 3 v22 (v23 + 1)).bind (fun μ24 => (f_X6_bed 0 x4 4 μ24).bind (fun v25 => (f_X6_bed 0 x4 5 μ24).bind (fun v26 => (f_X6_bed 0 x4 1 μ24).bind (fun v27 => (f_X6_bed 0 x4 2 μ24).bind (fun v28 => (f_X6_bed 0 x4 3 μ24).bind (fun v29 => (if v29 = (-1000) then f_L_beds_b91 (f_L_beds_b11 fuel11) (x2 + v25) (x3 + v26) x4 v22 v27 v28 1 μ24 else f_L_beds_b91 (f_L_beds_b11 fuel11) (x2 + v25) (x3 + v26) x4 v22 v27 v28 0 μ24))))))))))
def f_L_beds_p3 (μ : Mem) : Option (Int32 × Mem) := f_L_beds_b11 33 0 0 0 μ
def f_L_beds (μ : Mem) : Option (Int32 × Mem) := f_L_beds_p3 (fun k => if k = 85 then (fun _ => 0) else μ k)
set_option maxHeartbeats 4000000 in
set_option maxRecDepth 100000 in
theorem c_L_beds (l : Launch) {D : va_G} {cI cG cL : ClassId} {A : Nat → Prop} {tC tS : Nat} {adE adK adV : Nat → Nat} (hE : EnOK (ENV tC tS adE adK adV A) A) (hst : l.stackTraces = false) {sz : Nat} (hA : ∀ q, sz ≤ q → A q) {ad0 : Nat → Nat} {μ : Mem} {r : Int32} {μ' : Mem} (h : f_L_beds μ = some (r, μ')) : Met l yL_beds wsL_beds (rmc 5 1 3 113) (WPreN D (tyl cI cG cL) A (ENV tC tS adE adK adV A) sz (cPG cI cG adE ad0 0 μ) [.ref (ad0 0)]) (PI D A (cPG cI cG adE ad0 0 μ') r) 1 3 A := by
  have mai : Cond.arrayClass .int ∈ wsL_beds := by decide +kernel
  refine met_startMN (cc := cL_beds) (nL := 8) (ret := (some .boolean)) (own := RL) hE (by decide) rfl rfl (Nat.le_of_ble_eq_true rfl) (fun p e s m args below meth c ls X hz hS hl hr hlk => ?_)
  have hx := X.1.1
  have hb := X.1.2.1
  replace hl : lv_has ls 8 [(0, .ref (ad0 0))] := hl
  have hA0 : ∀ q, s.heap.size ≤ q → A q := fun q hq => hA q (Nat.le_trans hz hq)
  refine lv_iconst (v := 3) hx hb dL_beds_0 (by decide) ?_
  refine va_newa (atype := .int) (ty := .int) (a0 := (3, .inl (fun _ => 0))) hx hb (X.1.2.2.2.2 _ mai) rfl X.2.1 hS.1 hS.2.1 hS.2.2 hA0 (fun _ => rfl) (N' := 3) (by decide) rfl (Nat.le_of_ble_eq_true rfl) (Nat.le_of_ble_eq_true rfl) (Nat.le_of_ble_eq_true rfl) dL_beds_1 (fun q3 cA H hK2 hP hD hS => ?_)
  have u1 : s.vm.findClass ("[" ++ FieldType.int.toString) = some cA := (hK2.2 3 (cA, .int) rfl).2
  have u2 : s.vm.findClass ("[" ++ FieldType.int.toString) = some cI := (hK2.2 0 (cI, .int) rfl).2
  rw [u1] at u2
  cases u2
  obtain ⟨ad, w, e0, hw0, hA85, hfin0, hw1⟩ := beds_world (cI := cI) (cG := cG) (adE := adE) ad0 q3
  have hfin : ∀ (μ : Mem) (H : Heap) (locs : List Loc), HS D A (w μ) s.heap H locs → HS D A (cPG cI cG adE ad0 0 μ) s.heap H locs := fun μ H locs hS => hfin0 hS
  have hS0 : HS D A (w (fun k => if k = 85 then (fun _ => 0) else μ k)) s.heap H [] := by
    rw [hw1]
    exact ⟨hP, hD, hS⟩
  have e85 : q3 = ad 85 := e0.2
  rw [e85]
  rw [← e0.1] at hl
  have hb507 : ∀ (s0 : Int32) (μ : Mem) (cells slots : Nat), cells + 0 ≤ 1 → slots + 0 ≤ 3 → ∀ (H : Heap) (locs : List Loc) (ls : Array Slot), HS D A (w μ) s.heap H locs → lv_has ls 8 [] → f_L_beds_b507 s0 μ = some (r, μ') → W p l e (headSpec wsL_beds (rmc 5 1 3 113)).room s m args below meth c H locs cells slots (MQ below (PI D A (cPG cI cG adE ad0 0 μ') r) args s 1 3 A) (F0 m 507 ls [.int s0]) := by
    intro s0 μ cells slots hc hs H locs ls hS hl h
    unfold f_L_beds_b507 at h
    obtain ⟨v4, ev4, h⟩ := ob h
    obtain ⟨ezv4, eov4⟩ := zr_ok ev4
    rw [ezv4]
    obtain ⟨rfl, rfl⟩ := pr2 h
    exact r_zretM X (hfin _ _ _ hS) hr hlk eov4 (by omega) (by omega) dL_beds_507
  have hb506 : ∀  (μ : Mem) (cells slots : Nat), cells + 0 ≤ 1 → slots + 0 ≤ 3 → ∀ (H : Heap) (locs : List Loc) (ls : Array Slot), HS D A (w μ) s.heap H locs → lv_has ls 8 [] → f_L_beds_b506 μ = some (r, μ') → W p l e (headSpec wsL_beds (rmc 5 1 3 113)).room s m args below meth c H locs cells slots (MQ below (PI D A (cPG cI cG adE ad0 0 μ') r) args s 1 3 A) (F0 m 506 ls []) := by
    intro μ cells slots hc hs H locs ls hS hl h
    unfold f_L_beds_b506 at h
    refine lv_iconst (v := 0) hx hb dL_beds_506 (by decide) ?_
    exact hb507 0 μ _ _ (by omega) (by omega) _ _ _ hS (lv_sub hl [] rfl) h
  have hb499 : ∀ (s0 : Int32) (s1 : Int32) (μ : Mem) (cells slots : Nat), cells + 0 ≤ 1 → slots + 0 ≤ 3 → ∀ (H : Heap) (locs : List Loc) (ls : Array Slot), HS D A (w μ) s.heap H locs → lv_has ls 8 [] → f_L_beds_b499 s0 s1 μ = some (r, μ') → W p l e (headSpec wsL_beds (rmc 5 1 3 113)).room s m args below meth c H locs cells slots (MQ below (PI D A (cPG cI cG adE ad0 0 μ') r) args s 1 3 A) (F0 m 499 ls [.int s0, .int s1]) := by
    intro s0 s1 μ cells slots hc hs H locs ls hS hl h
    unfold f_L_beds_b499 at h
    refine lv_icmp_ne (tgt := 506) hx hb dL_beds_499 (by decide) (fun cc => ?_) (fun cc => ?_)
    · replace h := ie h cc
      exact hb506 μ _ _ (by omega) (by omega) _ _ _ hS (lv_sub hl [] rfl) h
    · replace h := it h cc
      refine lv_iconst (v := 1) hx hb dL_beds_502 (by decide) ?_
      refine lv_goto (tgt := 507) hx hb dL_beds_503 (by decide) ?_
      exact hb507 1 μ _ _ (by omega) (by omega) _ _ _ hS (lv_sub hl [] rfl) h
  have hb486 : ∀ (x2 : Int32) (s0 : Int32) (μ : Mem) (cells slots : Nat), cells + 0 ≤ 1 → slots + 0 ≤ 3 → ∀ (H : Heap) (locs : List Loc) (ls : Array Slot), HS D A (w μ) s.heap H locs → lv_has ls 8 [(1, .ref (ad 85)), (2, .int x2)] → f_L_beds_b486 x2 s0 μ = some (r, μ') → W p l e (headSpec wsL_beds (rmc 5 1 3 113)).room s m args below meth c H locs cells slots (MQ below (PI D A (cPG cI cG adE ad0 0 μ') r) args s 1 3 A) (F0 m 486 ls [.int s0]) := by
    intro x2 s0 μ cells slots hc hs H locs ls hS hl h
    unfold f_L_beds_b486 at h
    refine lv_aload_n hx hb dL_beds_486 rfl (lv_at hl 0 rfl) ?_
    refine lv_iconst (v := 0) hx hb dL_beds_487 (by decide) ?_
    obtain ⟨v14, ev14, h⟩ := ob h
    refine r_iald X hS (hA85 μ).1 ev14 dL_beds_488 ?_
    refine lv_iload_n hx hb dL_beds_489 rfl (lv_at hl 1 rfl) ?_
    refine lv_iadd hx hb dL_beds_490 ?_
    refine lv_if_ne (tgt := 498) hx hb dL_beds_491 (by decide) (fun cc => ?_) (fun cc => ?_)
    · replace h := ie h cc
      refine lv_iconst (v := 0) hx hb dL_beds_498 (by decide) ?_
      exact hb499 0 s0 μ _ _ (by omega) (by omega) _ _ _ hS (lv_sub hl [] rfl) h
    · replace h := it h cc
      refine lv_iconst (v := 1) hx hb dL_beds_494 (by decide) ?_
      refine lv_goto (tgt := 499) hx hb dL_beds_495 (by decide) ?_
      exact hb499 1 s0 μ _ _ (by omega) (by omega) _ _ _ hS (lv_sub hl [] rfl) h
  have hb405 : ∀ (x2 : Int32) (x3 : Int32) (x4 : Int32) (μ : Mem) (cells slots : Nat), cells + 0 ≤ 1 → slots + 0 ≤ 3 → ∀ (H : Heap) (locs : List Loc) (ls : Array Slot), HS D A (w μ) s.heap H locs → lv_has ls 8 [(0, .ref (ad 0)), (1, .ref (ad 85)), (2, .int x2), (3, .int x3), (4, .int x4)] → f_L_beds_b405 x2 x3 x4 μ = some (r, μ') → W p l e (headSpec wsL_beds (rmc 5 1 3 113)).room s m args below meth c H locs cells slots (MQ below (PI D A (cPG cI cG adE ad0 0 μ') r) args s 1 3 A) (F0 m 405 ls []) := by
    intro x2 x3 x4 μ cells slots hc hs H locs ls hS hl h
    unfold f_L_beds_b405 at h
    refine lv_aload_n hx hb dL_beds_405 rfl (lv_at hl 1 rfl) ?_
    refine lv_iconst (v := 0) hx hb dL_beds_406 (by decide) ?_
    obtain ⟨v2, ev2, h⟩ := ob h
    refine r_iald X hS (hA85 μ).1 ev2 dL_beds_407 ?_
    refine lv_aload_n hx hb dL_beds_408 rfl (lv_at hl 0 rfl) ?_
    refine lv_iconst (v := 0) hx hb dL_beds_409 (by decide) ?_
    obtain ⟨v3, ev3, h⟩ := ob h
    refine r_ci hS (r_runV (As := [.int 0]) (rest := [.int v2]) X hS (c_X6_whole l hE (w := w) (ad := ad) (μ := μ) (D := D) (cI := cI) (cG := cG) (cL := cL) hw0 ev3) (cwV 1 X.1.2.2.2.2 gL_beds_X6_whole rfl rfl rfl (by decide +kernel) ⟨Nat.le_of_ble_eq_true rfl, Nat.le_of_ble_eq_true rfl⟩) (q0 := 0) (ci := 4) rfl (hw0.1 μ).1 rfl hl.1 rfl (Nat.le_of_ble_eq_true rfl) dL_beds_410 ⟨Nat.le_trans (m := 1) (by omega) (Nat.le_of_ble_eq_true rfl), Nat.le_trans (m := 3) (by omega) (Nat.le_of_ble_eq_true rfl)⟩) (fun H locs hS => ?_)
    refine lv_icmp_ne (tgt := 506) hx hb dL_beds_413 (by decide) (fun cc => ?_) (fun cc => ?_)
    · replace h := ie h cc
      exact hb506 μ _ _ (by omega) (by omega) _ _ _ hS (lv_sub hl [] rfl) h
    · replace h := it h cc
      refine lv_aload_n hx hb dL_beds_416 rfl (lv_at hl 1 rfl) ?_
      refine lv_iconst (v := 1) hx hb dL_beds_417 (by decide) ?_
      obtain ⟨v5, ev5, h⟩ := ob h
      refine r_iald X hS (hA85 μ).1 ev5 dL_beds_418 ?_
      refine lv_aload_n hx hb dL_beds_419 rfl (lv_at hl 0 rfl) ?_
      refine lv_iconst (v := 1) hx hb dL_beds_420 (by decide) ?_
      obtain ⟨v6, ev6, h⟩ := ob h
      refine r_ci hS (r_runV (As := [.int 1]) (rest := [.int v5]) X hS (c_X6_whole l hE (w := w) (ad := ad) (μ := μ) (D := D) (cI := cI) (cG := cG) (cL := cL) hw0 ev6) (cwV 1 X.1.2.2.2.2 gL_beds_X6_whole rfl rfl rfl (by decide +kernel) ⟨Nat.le_of_ble_eq_true rfl, Nat.le_of_ble_eq_true rfl⟩) (q0 := 0) (ci := 4) rfl (hw0.1 μ).1 rfl hl.1 rfl (Nat.le_of_ble_eq_true rfl) dL_beds_421 ⟨Nat.le_trans (m := 1) (by omega) (Nat.le_of_ble_eq_true rfl), Nat.le_trans (m := 3) (by omega) (Nat.le_of_ble_eq_true rfl)⟩) (fun H locs hS => ?_)
      refine lv_icmp_ne (tgt := 506) hx hb dL_beds_424 (by decide) (fun cc => ?_) (fun cc => ?_)
      · replace h := ie h cc
        exact hb506 μ _ _ (by omega) (by omega) _ _ _ hS (lv_sub hl [] rfl) h
      · replace h := it h cc
        refine lv_aload_n hx hb dL_beds_427 rfl (lv_at hl 1 rfl) ?_
        refine lv_iconst (v := 2) hx hb dL_beds_428 (by decide) ?_
        obtain ⟨v7, ev7, h⟩ := ob h
        refine r_iald X hS (hA85 μ).1 ev7 dL_beds_429 ?_
        refine lv_aload_n hx hb dL_beds_430 rfl (lv_at hl 0 rfl) ?_
        refine lv_iconst (v := 2) hx hb dL_beds_431 (by decide) ?_
        obtain ⟨v8, ev8, h⟩ := ob h
        refine r_ci hS (r_runV (As := [.int 2]) (rest := [.int v7]) X hS (c_X6_whole l hE (w := w) (ad := ad) (μ := μ) (D := D) (cI := cI) (cG := cG) (cL := cL) hw0 ev8) (cwV 1 X.1.2.2.2.2 gL_beds_X6_whole rfl rfl rfl (by decide +kernel) ⟨Nat.le_of_ble_eq_true rfl, Nat.le_of_ble_eq_true rfl⟩) (q0 := 0) (ci := 4) rfl (hw0.1 μ).1 rfl hl.1 rfl (Nat.le_of_ble_eq_true rfl) dL_beds_432 ⟨Nat.le_trans (m := 1) (by omega) (Nat.le_of_ble_eq_true rfl), Nat.le_trans (m := 3) (by omega) (Nat.le_of_ble_eq_true rfl)⟩) (fun H locs hS => ?_)
        refine lv_icmp_ne (tgt := 506) hx hb dL_beds_435 (by decide) (fun cc => ?_) (fun cc => ?_)
        · replace h := ie h cc
          exact hb506 μ _ _ (by omega) (by omega) _ _ _ hS (lv_sub hl [] rfl) h
        · replace h := it h cc
          refine lv_aload_n hx hb dL_beds_438 rfl (lv_at hl 1 rfl) ?_
          refine lv_iconst (v := 0) hx hb dL_beds_439 (by decide) ?_
          obtain ⟨v9, ev9, h⟩ := ob h
          refine r_iald X hS (hA85 μ).1 ev9 dL_beds_440 ?_
          refine lv_aload_n hx hb dL_beds_441 rfl (lv_at hl 1 rfl) ?_
          refine lv_iconst (v := 1) hx hb dL_beds_442 (by decide) ?_
          obtain ⟨v10, ev10, h⟩ := ob h
          refine r_iald X hS (hA85 μ).1 ev10 dL_beds_443 ?_
          refine lv_iadd hx hb dL_beds_444 ?_
          refine lv_aload_n hx hb dL_beds_445 rfl (lv_at hl 1 rfl) ?_
          refine lv_iconst (v := 2) hx hb dL_beds_446 (by decide) ?_
          obtain ⟨v11, ev11, h⟩ := ob h
          refine r_iald X hS (hA85 μ).1 ev11 dL_beds_447 ?_
          refine lv_iadd hx hb dL_beds_448 ?_
          refine lv_bipush (v := 32) hx hb dL_beds_449 (by decide) ?_
          refine lv_icmp_ne (tgt := 506) hx hb dL_beds_451 (by decide) (fun cc => ?_) (fun cc => ?_)
          · replace h := ie h cc
            exact hb506 μ _ _ (by omega) (by omega) _ _ _ hS (lv_sub hl [] rfl) h
          · replace h := it h cc
            refine lv_iload_n hx hb dL_beds_454 rfl (lv_at hl 2 rfl) ?_
            refine lv_aload_n hx hb dL_beds_455 rfl (lv_at hl 0 rfl) ?_
            refine lv_iconst (v := 3) hx hb dL_beds_456 (by decide) ?_
            obtain ⟨v12, ev12, h⟩ := ob h
            refine r_ci hS (r_runV (As := [.int 3]) (rest := [.int x2]) X hS (c_X6_whole l hE (w := w) (ad := ad) (μ := μ) (D := D) (cI := cI) (cG := cG) (cL := cL) hw0 ev12) (cwV 1 X.1.2.2.2.2 gL_beds_X6_whole rfl rfl rfl (by decide +kernel) ⟨Nat.le_of_ble_eq_true rfl, Nat.le_of_ble_eq_true rfl⟩) (q0 := 0) (ci := 4) rfl (hw0.1 μ).1 rfl hl.1 rfl (Nat.le_of_ble_eq_true rfl) dL_beds_457 ⟨Nat.le_trans (m := 1) (by omega) (Nat.le_of_ble_eq_true rfl), Nat.le_trans (m := 3) (by omega) (Nat.le_of_ble_eq_true rfl)⟩) (fun H locs hS => ?_)
            refine lv_icmp_ne (tgt := 506) hx hb dL_beds_460 (by decide) (fun cc => ?_) (fun cc => ?_)
            · replace h := ie h cc
              exact hb506 μ _ _ (by omega) (by omega) _ _ _ hS (lv_sub hl [] rfl) h
            · replace h := it h cc
              refine lv_iload_n hx hb dL_beds_463 rfl (lv_at hl 3 rfl) ?_
              refine lv_aload_n hx hb dL_beds_464 rfl (lv_at hl 0 rfl) ?_
              refine lv_bipush (v := 9) hx hb dL_beds_465 (by decide) ?_
              obtain ⟨v13, ev13, h⟩ := ob h
              refine r_ci hS (r_runV (As := [.int 9]) (rest := [.int x3]) X hS (c_X6_whole l hE (w := w) (ad := ad) (μ := μ) (D := D) (cI := cI) (cG := cG) (cL := cL) hw0 ev13) (cwV 1 X.1.2.2.2.2 gL_beds_X6_whole rfl rfl rfl (by decide +kernel) ⟨Nat.le_of_ble_eq_true rfl, Nat.le_of_ble_eq_true rfl⟩) (q0 := 0) (ci := 4) rfl (hw0.1 μ).1 rfl hl.1 rfl (Nat.le_of_ble_eq_true rfl) dL_beds_467 ⟨Nat.le_trans (m := 1) (by omega) (Nat.le_of_ble_eq_true rfl), Nat.le_trans (m := 3) (by omega) (Nat.le_of_ble_eq_true rfl)⟩) (fun H locs hS => ?_)
              refine lv_icmp_ne (tgt := 506) hx hb dL_beds_470 (by decide) (fun cc => ?_) (fun cc => ?_)
              · replace h := ie h cc
                exact hb506 μ _ _ (by omega) (by omega) _ _ _ hS (lv_sub hl [] rfl) h
              · replace h := it h cc
                refine lv_iload hx hb dL_beds_473 (lv_at hl 4 rfl) ?_
                refine lv_sipush (v := (-1000)) hx hb dL_beds_475 (by decide) ?_
                refine lv_icmp_ne (tgt := 485) hx hb dL_beds_478 (by decide) (fun cc => ?_) (fun cc => ?_)
                · replace h := ie h cc
                  refine lv_iconst (v := 0) hx hb dL_beds_485 (by decide) ?_
                  exact hb486 x2 0 μ _ _ (by omega) (by omega) _ _ _ hS (lv_sub hl [1, 2] rfl) h
                · replace h := it h cc
                  refine lv_iconst (v := 1) hx hb dL_beds_481 (by decide) ?_
                  refine lv_goto (tgt := 486) hx hb dL_beds_482 (by decide) ?_
                  exact hb486 x2 1 μ _ _ (by omega) (by omega) _ _ _ hS (lv_sub hl [1, 2] rfl) h
  have hb399 : ∀ (k271 : Int32 → Int32 → Int32 → Int32 → Mem → Option (Int32 × Mem)) (G271 GS271 : Nat), 0 ≤ G271 → 0 ≤ GS271 → (∀ (x2 : Int32) (x3 : Int32) (x4 : Int32) (x5 : Int32) (μ : Mem) (cells slots : Nat), cells + G271 ≤ 1 → slots + GS271 ≤ 3 → ∀ (H : Heap) (locs : List Loc) (ls : Array Slot), HS D A (w μ) s.heap H locs → lv_has ls 8 [(0, .ref (ad 0)), (1, .ref (ad 85)), (2, .int x2), (3, .int x3), (4, .int x4), (5, .int x5)] → k271 x2 x3 x4 x5 μ = some (r, μ') → W p l e (headSpec wsL_beds (rmc 5 1 3 113)).room s m args below meth c H locs cells slots (MQ below (PI D A (cPG cI cG adE ad0 0 μ') r) args s 1 3 A) (F0 m 271 ls [])) → ∀ (x2 : Int32) (x3 : Int32) (x4 : Int32) (x5 : Int32) (μ : Mem) (cells slots : Nat), cells + 0 + G271 ≤ 1 → slots + 0 + GS271 ≤ 3 → ∀ (H : Heap) (locs : List Loc) (ls : Array Slot), HS D A (w μ) s.heap H locs → lv_has ls 8 [(0, .ref (ad 0)), (1, .ref (ad 85)), (2, .int x2), (3, .int x3), (4, .int x4), (5, .int x5)] → f_L_beds_b399 k271 x2 x3 x4 x5 μ = some (r, μ') → W p l e (headSpec wsL_beds (rmc 5 1 3 113)).room s m args below meth c H locs cells slots (MQ below (PI D A (cPG cI cG adE ad0 0 μ') r) args s 1 3 A) (F0 m 399 ls []) := by
    intro k271 G271 GS271 hG271 hGS271 hk271 x2 x3 x4 x5 μ cells slots hc hs H locs ls hS hl h
    unfold f_L_beds_b399 at h
    refine lv_iinc (v := x5 + 1) (lv' := [(5, .int (x5 + 1)), (0, .ref (ad 0)), (1, .ref (ad 85)), (2, .int x2), (3, .int x3), (4, .int x4)]) hx hb dL_beds_399 hl (k := 5) rfl rfl (by decide) rfl (fun ls hl => ?_)
    refine lv_goto (tgt := 271) hx hb dL_beds_402 (by decide) ?_
    exact hk271 x2 x3 x4 (x5 + 1) μ _ _ (by omega) (by omega) _ _ _ hS (lv_sub hl [1, 2, 3, 4, 5, 0] rfl) h
  have hb397 : ∀  (μ : Mem) (cells slots : Nat), cells + 0 ≤ 1 → slots + 0 ≤ 3 → ∀ (H : Heap) (locs : List Loc) (ls : Array Slot), HS D A (w μ) s.heap H locs → lv_has ls 8 [] → f_L_beds_b397 μ = some (r, μ') → W p l e (headSpec wsL_beds (rmc 5 1 3 113)).room s m args below meth c H locs cells slots (MQ below (PI D A (cPG cI cG adE ad0 0 μ') r) args s 1 3 A) (F0 m 397 ls []) := by
    intro μ cells slots hc hs H locs ls hS hl h
    unfold f_L_beds_b397 at h
    refine lv_iconst (v := 0) hx hb dL_beds_397 (by decide) ?_
    obtain ⟨rfl, rfl⟩ := pr2 h
    exact r_zretM X (hfin _ _ _ hS) hr hlk (by decide) (by omega) (by omega) dL_beds_398
  have hb319 : ∀ (k271 : Int32 → Int32 → Int32 → Int32 → Mem → Option (Int32 × Mem)) (G271 GS271 : Nat), 0 ≤ G271 → 0 ≤ GS271 → (∀ (x2 : Int32) (x3 : Int32) (x4 : Int32) (x5 : Int32) (μ : Mem) (cells slots : Nat), cells + G271 ≤ 1 → slots + GS271 ≤ 3 → ∀ (H : Heap) (locs : List Loc) (ls : Array Slot), HS D A (w μ) s.heap H locs → lv_has ls 8 [(0, .ref (ad 0)), (1, .ref (ad 85)), (2, .int x2), (3, .int x3), (4, .int x4), (5, .int x5)] → k271 x2 x3 x4 x5 μ = some (r, μ') → W p l e (headSpec wsL_beds (rmc 5 1 3 113)).room s m args below meth c H locs cells slots (MQ below (PI D A (cPG cI cG adE ad0 0 μ') r) args s 1 3 A) (F0 m 271 ls [])) → ∀ (x2 : Int32) (x3 : Int32) (x4 : Int32) (x5 : Int32) (x6 : Int32) (s0 : Int32) (μ : Mem) (cells slots : Nat), cells + 0 + G271 ≤ 1 → slots + 0 + GS271 ≤ 3 → ∀ (H : Heap) (locs : List Loc) (ls : Array Slot), HS D A (w μ) s.heap H locs → lv_has ls 8 [(0, .ref (ad 0)), (1, .ref (ad 85)), (2, .int x2), (3, .int x3), (4, .int x4), (5, .int x5), (6, .int x6)] → f_L_beds_b319 k271 x2 x3 x4 x5 x6 s0 μ = some (r, μ') → W p l e (headSpec wsL_beds (rmc 5 1 3 113)).room s m args below meth c H locs cells slots (MQ below (PI D A (cPG cI cG adE ad0 0 μ') r) args s 1 3 A) (F0 m 319 ls [.int s0]) := by
    intro k271 G271 GS271 hG271 hGS271 hk271 x2 x3 x4 x5 x6 s0 μ cells slots hc hs H locs ls hS hl h
    unfold f_L_beds_b319 at h
    refine lv_istore (lv' := [(7, .int s0), (0, .ref (ad 0)), (1, .ref (ad 85)), (2, .int x2), (3, .int x3), (4, .int x4), (5, .int x5), (6, .int x6)]) hx hb dL_beds_319 hl (by decide) rfl (fun ls hl => ?_)
    refine lv_aload_n hx hb dL_beds_321 rfl (lv_at hl 1 rfl) ?_
    refine lv_iload hx hb dL_beds_322 (lv_at hl 5 rfl) ?_
    refine lv_iconst (v := 0) hx hb dL_beds_324 (by decide) ?_
    obtain ⟨v17, ev17, h⟩ := ob h
    refine r_ci hS (r_runV (As := [.int x4, .int 0]) (rest := []) X hS (c_X6_bed l hE (w := w) (ad := ad) (μ := μ) (D := D) (cI := cI) (cG := cG) (cL := cL) hw0 ev17) (cwV 2 X.1.2.2.2.2 gL_beds_X6_bed rfl rfl rfl (by decide +kernel) ⟨Nat.le_of_ble_eq_true rfl, Nat.le_of_ble_eq_true rfl⟩) (q0 := 0) (ci := 4) rfl (hw0.1 μ).1 rfl hl.1 rfl (Nat.le_of_ble_eq_true rfl) dL_beds_325 ⟨Nat.le_trans (m := 1) (by omega) (Nat.le_of_ble_eq_true rfl), Nat.le_trans (m := 3) (by omega) (Nat.le_of_ble_eq_true rfl)⟩) (fun H locs hS => ?_)
    refine lv_if_ne (tgt := 351) hx hb dL_beds_328 (by decide) (fun cc => ?_) (fun cc => ?_)
    · replace h := ie h cc
      refine lv_iload hx hb dL_beds_351 (lv_at hl 0 rfl) ?_
      refine lv_if_eq (tgt := 399) hx hb dL_beds_353 (by decide) (fun cc => ?_) (fun cc => ?_)
      · replace h := it h cc
        exact hb399 k271 G271 GS271 hG271 hGS271 hk271 x2 x3 x4 x5 μ _ _ (by omega) (by omega) _ _ _ hS (lv_sub hl [1, 2, 3, 4, 5, 6] rfl) h
      · replace h := ie h cc
        refine lv_aload_n hx hb dL_beds_356 rfl (lv_at hl 1 rfl) ?_
        refine lv_iload hx hb dL_beds_357 (lv_at hl 6 rfl) ?_
        refine lv_iconst (v := 3) hx hb dL_beds_359 (by decide) ?_
        obtain ⟨v18, ev18, h⟩ := ob h
        refine r_ci hS (r_runV (As := [.int x5, .int 3]) (rest := []) X hS (c_X6_bed l hE (w := w) (ad := ad) (μ := μ) (D := D) (cI := cI) (cG := cG) (cL := cL) hw0 ev18) (cwV 2 X.1.2.2.2.2 gL_beds_X6_bed rfl rfl rfl (by decide +kernel) ⟨Nat.le_of_ble_eq_true rfl, Nat.le_of_ble_eq_true rfl⟩) (q0 := 0) (ci := 4) rfl (hw0.1 μ).1 rfl hl.1 rfl (Nat.le_of_ble_eq_true rfl) dL_beds_360 ⟨Nat.le_trans (m := 1) (by omega) (Nat.le_of_ble_eq_true rfl), Nat.le_trans (m := 3) (by omega) (Nat.le_of_ble_eq_true rfl)⟩) (fun H locs hS => ?_)
        refine lv_aload_n hx hb dL_beds_363 rfl (lv_at hl 1 rfl) ?_
        refine lv_iload hx hb dL_beds_364 (lv_at hl 5 rfl) ?_
        refine lv_iconst (v := 3) hx hb dL_beds_366 (by decide) ?_
        obtain ⟨v19, ev19, h⟩ := ob h
        refine r_ci hS (r_runV (As := [.int x4, .int 3]) (rest := [.int v18]) X hS (c_X6_bed l hE (w := w) (ad := ad) (μ := μ) (D := D) (cI := cI) (cG := cG) (cL := cL) hw0 ev19) (cwV 2 X.1.2.2.2.2 gL_beds_X6_bed rfl rfl rfl (by decide +kernel) ⟨Nat.le_of_ble_eq_true rfl, Nat.le_of_ble_eq_true rfl⟩) (q0 := 0) (ci := 4) rfl (hw0.1 μ).1 rfl hl.1 rfl (Nat.le_of_ble_eq_true rfl) dL_beds_367 ⟨Nat.le_trans (m := 1) (by omega) (Nat.le_of_ble_eq_true rfl), Nat.le_trans (m := 3) (by omega) (Nat.le_of_ble_eq_true rfl)⟩) (fun H locs hS => ?_)
        refine lv_icmp_lt (tgt := 397) hx hb dL_beds_370 (by decide) (fun cc => ?_) (fun cc => ?_)
        · replace h := it h cc
          exact hb397 μ _ _ (by omega) (by omega) _ _ _ hS (lv_sub hl [] rfl) h
        · replace h := ie h cc
          refine lv_aload_n hx hb dL_beds_373 rfl (lv_at hl 1 rfl) ?_
          refine lv_iload hx hb dL_beds_374 (lv_at hl 6 rfl) ?_
          refine lv_iconst (v := 3) hx hb dL_beds_376 (by decide) ?_
          obtain ⟨v20, ev20, h⟩ := ob h
          refine r_ci hS (r_runV (As := [.int x5, .int 3]) (rest := []) X hS (c_X6_bed l hE (w := w) (ad := ad) (μ := μ) (D := D) (cI := cI) (cG := cG) (cL := cL) hw0 ev20) (cwV 2 X.1.2.2.2.2 gL_beds_X6_bed rfl rfl rfl (by decide +kernel) ⟨Nat.le_of_ble_eq_true rfl, Nat.le_of_ble_eq_true rfl⟩) (q0 := 0) (ci := 4) rfl (hw0.1 μ).1 rfl hl.1 rfl (Nat.le_of_ble_eq_true rfl) dL_beds_377 ⟨Nat.le_trans (m := 1) (by omega) (Nat.le_of_ble_eq_true rfl), Nat.le_trans (m := 3) (by omega) (Nat.le_of_ble_eq_true rfl)⟩) (fun H locs hS => ?_)
          refine lv_aload_n hx hb dL_beds_380 rfl (lv_at hl 1 rfl) ?_
          refine lv_iload hx hb dL_beds_381 (lv_at hl 5 rfl) ?_
          refine lv_iconst (v := 3) hx hb dL_beds_383 (by decide) ?_
          obtain ⟨v21, ev21, h⟩ := ob h
          refine r_ci hS (r_runV (As := [.int x4, .int 3]) (rest := [.int v20]) X hS (c_X6_bed l hE (w := w) (ad := ad) (μ := μ) (D := D) (cI := cI) (cG := cG) (cL := cL) hw0 ev21) (cwV 2 X.1.2.2.2.2 gL_beds_X6_bed rfl rfl rfl (by decide +kernel) ⟨Nat.le_of_ble_eq_true rfl, Nat.le_of_ble_eq_true rfl⟩) (q0 := 0) (ci := 4) rfl (hw0.1 μ).1 rfl hl.1 rfl (Nat.le_of_ble_eq_true rfl) dL_beds_384 ⟨Nat.le_trans (m := 1) (by omega) (Nat.le_of_ble_eq_true rfl), Nat.le_trans (m := 3) (by omega) (Nat.le_of_ble_eq_true rfl)⟩) (fun H locs hS => ?_)
          refine lv_icmp_ne (tgt := 399) hx hb dL_beds_387 (by decide) (fun cc => ?_) (fun cc => ?_)
          · replace h := ie h cc
            exact hb399 k271 G271 GS271 hG271 hGS271 hk271 x2 x3 x4 x5 μ _ _ (by omega) (by omega) _ _ _ hS (lv_sub hl [1, 2, 3, 4, 5, 6] rfl) h
          · replace h := it h cc
            refine lv_iload hx hb dL_beds_390 (lv_at hl 6 rfl) ?_
            refine lv_iload hx hb dL_beds_392 (lv_at hl 5 rfl) ?_
            refine lv_icmp_ge (tgt := 399) hx hb dL_beds_394 (by decide) (fun cc => ?_) (fun cc => ?_)
            · replace h := it h cc
              exact hb399 k271 G271 GS271 hG271 hGS271 hk271 x2 x3 x4 x5 μ _ _ (by omega) (by omega) _ _ _ hS (lv_sub hl [1, 2, 3, 4, 5, 6] rfl) h
            · replace h := ie h cc
              exact hb397 μ _ _ (by omega) (by omega) _ _ _ hS (lv_sub hl [] rfl) h
    · replace h := it h cc
      refine lv_iload hx hb dL_beds_331 (lv_at hl 0 rfl) ?_
      refine lv_if_ne (tgt := 397) hx hb dL_beds_333 (by decide) (fun cc => ?_) (fun cc => ?_)
      · replace h := ie h cc
        exact hb397 μ _ _ (by omega) (by omega) _ _ _ hS (lv_sub hl [] rfl) h
      · replace h := it h cc
        refine lv_iload hx hb dL_beds_336 (lv_at hl 7 rfl) ?_
        refine lv_if_eq (tgt := 399) hx hb dL_beds_338 (by decide) (fun cc => ?_) (fun cc => ?_)
        · replace h := it h cc
          exact hb399 k271 G271 GS271 hG271 hGS271 hk271 x2 x3 x4 x5 μ _ _ (by omega) (by omega) _ _ _ hS (lv_sub hl [1, 2, 3, 4, 5, 6] rfl) h
        · replace h := ie h cc
          refine lv_iload hx hb dL_beds_341 (lv_at hl 6 rfl) ?_
          refine lv_iload hx hb dL_beds_343 (lv_at hl 5 rfl) ?_
          refine lv_icmp_ge (tgt := 399) hx hb dL_beds_345 (by decide) (fun cc => ?_) (fun cc => ?_)
          · replace h := it h cc
            exact hb399 k271 G271 GS271 hG271 hGS271 hk271 x2 x3 x4 x5 μ _ _ (by omega) (by omega) _ _ _ hS (lv_sub hl [1, 2, 3, 4, 5, 6] rfl) h
          · replace h := ie h cc
            refine lv_goto (tgt := 397) hx hb dL_beds_348 (by decide) ?_
            exact hb397 μ _ _ (by omega) (by omega) _ _ _ hS (lv_sub hl [] rfl) h
  have hb301 : ∀ (k271 : Int32 → Int32 → Int32 → Int32 → Mem → Option (Int32 × Mem)) (G271 GS271 : Nat), 0 ≤ G271 → 0 ≤ GS271 → (∀ (x2 : Int32) (x3 : Int32) (x4 : Int32) (x5 : Int32) (μ : Mem) (cells slots : Nat), cells + G271 ≤ 1 → slots + GS271 ≤ 3 → ∀ (H : Heap) (locs : List Loc) (ls : Array Slot), HS D A (w μ) s.heap H locs → lv_has ls 8 [(0, .ref (ad 0)), (1, .ref (ad 85)), (2, .int x2), (3, .int x3), (4, .int x4), (5, .int x5)] → k271 x2 x3 x4 x5 μ = some (r, μ') → W p l e (headSpec wsL_beds (rmc 5 1 3 113)).room s m args below meth c H locs cells slots (MQ below (PI D A (cPG cI cG adE ad0 0 μ') r) args s 1 3 A) (F0 m 271 ls [])) → ∀ (x2 : Int32) (x3 : Int32) (x4 : Int32) (x5 : Int32) (s0 : Int32) (μ : Mem) (cells slots : Nat), cells + 0 + G271 ≤ 1 → slots + 0 + GS271 ≤ 3 → ∀ (H : Heap) (locs : List Loc) (ls : Array Slot), HS D A (w μ) s.heap H locs → lv_has ls 8 [(0, .ref (ad 0)), (1, .ref (ad 85)), (2, .int x2), (3, .int x3), (4, .int x4), (5, .int x5)] → f_L_beds_b301 k271 x2 x3 x4 x5 s0 μ = some (r, μ') → W p l e (headSpec wsL_beds (rmc 5 1 3 113)).room s m args below meth c H locs cells slots (MQ below (PI D A (cPG cI cG adE ad0 0 μ') r) args s 1 3 A) (F0 m 301 ls [.int s0]) := by
    intro k271 G271 GS271 hG271 hGS271 hk271 x2 x3 x4 x5 s0 μ cells slots hc hs H locs ls hS hl h
    unfold f_L_beds_b301 at h
    refine lv_istore (lv' := [(6, .int s0), (0, .ref (ad 0)), (1, .ref (ad 85)), (2, .int x2), (3, .int x3), (4, .int x4), (5, .int x5)]) hx hb dL_beds_301 hl (by decide) rfl (fun ls hl => ?_)
    refine lv_aload_n hx hb dL_beds_303 rfl (lv_at hl 1 rfl) ?_
    refine lv_iload hx hb dL_beds_304 (lv_at hl 6 rfl) ?_
    refine lv_iconst (v := 4) hx hb dL_beds_306 (by decide) ?_
    obtain ⟨v16, ev16, h⟩ := ob h
    refine r_ci hS (r_runV (As := [.int x5, .int 4]) (rest := []) X hS (c_X6_bed l hE (w := w) (ad := ad) (μ := μ) (D := D) (cI := cI) (cG := cG) (cL := cL) hw0 ev16) (cwV 2 X.1.2.2.2.2 gL_beds_X6_bed rfl rfl rfl (by decide +kernel) ⟨Nat.le_of_ble_eq_true rfl, Nat.le_of_ble_eq_true rfl⟩) (q0 := 0) (ci := 4) rfl (hw0.1 μ).1 rfl hl.1 rfl (Nat.le_of_ble_eq_true rfl) dL_beds_307 ⟨Nat.le_trans (m := 1) (by omega) (Nat.le_of_ble_eq_true rfl), Nat.le_trans (m := 3) (by omega) (Nat.le_of_ble_eq_true rfl)⟩) (fun H locs hS => ?_)
    refine lv_iconst (v := 1) hx hb dL_beds_310 (by decide) ?_
    refine lv_icmp_ne (tgt := 318) hx hb dL_beds_311 (by decide) (fun cc => ?_) (fun cc => ?_)
    · replace h := ie h cc
      refine lv_iconst (v := 0) hx hb dL_beds_318 (by decide) ?_
      exact hb319 k271 G271 GS271 hG271 hGS271 hk271 x2 x3 x4 x5 s0 0 μ _ _ (by omega) (by omega) _ _ _ hS (lv_sub hl [1, 2, 3, 4, 5, 6, 0] rfl) h
    · replace h := it h cc
      refine lv_iconst (v := 1) hx hb dL_beds_314 (by decide) ?_
      refine lv_goto (tgt := 319) hx hb dL_beds_315 (by decide) ?_
      exact hb319 k271 G271 GS271 hG271 hGS271 hk271 x2 x3 x4 x5 s0 1 μ _ _ (by omega) (by omega) _ _ _ hS (lv_sub hl [1, 2, 3, 4, 5, 6, 0] rfl) h
  have hb271 : ∀ (fu : Nat) (x2 : Int32) (x3 : Int32) (x4 : Int32) (x5 : Int32) (μ : Mem) (cells slots : Nat), cells + (fu * 0 + 0) ≤ 1 → slots + (fu * 0 + 0) ≤ 3 → ∀ (H : Heap) (locs : List Loc) (ls : Array Slot), HS D A (w μ) s.heap H locs → lv_has ls 8 [(0, .ref (ad 0)), (1, .ref (ad 85)), (2, .int x2), (3, .int x3), (4, .int x4), (5, .int x5)] → f_L_beds_b271 fu x2 x3 x4 x5 μ = some (r, μ') → W p l e (headSpec wsL_beds (rmc 5 1 3 113)).room s m args below meth c H locs cells slots (MQ below (PI D A (cPG cI cG adE ad0 0 μ') r) args s 1 3 A) (F0 m 271 ls []) := by
    intro fu
    induction fu with
    | zero =>
      intro x2 x3 x4 x5 μ cells slots hc hs H locs ls hS hl h
      rw [f_L_beds_b271] at h
      cases h
    | succ fuel271 ih271 =>
      intro x2 x3 x4 x5 μ cells slots hc hs H locs ls hS hl h
      rw [f_L_beds_b271] at h
      refine lv_iload hx hb dL_beds_271 (lv_at hl 5 rfl) ?_
      refine lv_bipush (v := 32) hx hb dL_beds_273 (by decide) ?_
      refine lv_icmp_ge (tgt := 405) hx hb dL_beds_275 (by decide) (fun cc => ?_) (fun cc => ?_)
      · replace h := it h cc
        exact hb405 x2 x3 x4 μ _ _ (by omega) (by omega) _ _ _ hS (lv_sub hl [0, 1, 2, 3, 4] rfl) h
      · replace h := ie h cc
        refine lv_iload hx hb dL_beds_278 (lv_at hl 4 rfl) ?_
        refine lv_sipush (v := (-1000)) hx hb dL_beds_280 (by decide) ?_
        refine lv_icmp_eq (tgt := 405) hx hb dL_beds_283 (by decide) (fun cc => ?_) (fun cc => ?_)
        · replace h := it h cc
          exact hb405 x2 x3 x4 μ _ _ (by omega) (by omega) _ _ _ hS (lv_sub hl [0, 1, 2, 3, 4] rfl) h
        · replace h := ie h cc
          refine lv_aload_n hx hb dL_beds_286 rfl (lv_at hl 0 rfl) ?_
          refine lv_iload hx hb dL_beds_287 (lv_at hl 5 rfl) ?_
          refine lv_iconst (v := 0) hx hb dL_beds_289 (by decide) ?_
          obtain ⟨v15, ev15, h⟩ := ob h
          refine r_ci hS (r_runV (As := [.int x5, .int 0]) (rest := []) X hS (c_X6_bed l hE (w := w) (ad := ad) (μ := μ) (D := D) (cI := cI) (cG := cG) (cL := cL) hw0 ev15) (cwV 2 X.1.2.2.2.2 gL_beds_X6_bed rfl rfl rfl (by decide +kernel) ⟨Nat.le_of_ble_eq_true rfl, Nat.le_of_ble_eq_true rfl⟩) (q0 := 0) (ci := 4) rfl (hw0.1 μ).1 rfl hl.1 rfl (Nat.le_of_ble_eq_true rfl) dL_beds_290 ⟨Nat.le_trans (m := 1) (by omega) (Nat.le_of_ble_eq_true rfl), Nat.le_trans (m := 3) (by omega) (Nat.le_of_ble_eq_true rfl)⟩) (fun H locs hS => ?_)
          refine lv_if_ne (tgt := 300) hx hb dL_beds_293 (by decide) (fun cc => ?_) (fun cc => ?_)
          · replace h := ie h cc
            refine lv_iconst (v := 0) hx hb dL_beds_300 (by decide) ?_
            exact hb301 (f_L_beds_b271 fuel271) (fuel271 * 0 + 0) (fuel271 * 0 + 0) (by omega) (by omega) (fun x2 x3 x4 x5 μ cells slots hc hs => ih271 x2 x3 x4 x5 μ cells slots (by omega) (by omega)) x2 x3 x4 x5 0 μ _ _ (by omega) (by omega) _ _ _ hS (lv_sub hl [0, 1, 2, 3, 4, 5] rfl) h
          · replace h := it h cc
            refine lv_iconst (v := 1) hx hb dL_beds_296 (by decide) ?_
            refine lv_goto (tgt := 301) hx hb dL_beds_297 (by decide) ?_
            exact hb301 (f_L_beds_b271 fuel271) (fuel271 * 0 + 0) (fuel271 * 0 + 0) (by omega) (by omega) (fun x2 x3 x4 x5 μ cells slots hc hs => ih271 x2 x3 x4 x5 μ cells slots (by omega) (by omega)) x2 x3 x4 x5 1 μ _ _ (by omega) (by omega) _ _ _ hS (lv_sub hl [0, 1, 2, 3, 4, 5] rfl) h
  have hb254 : ∀  (μ : Mem) (cells slots : Nat), cells + 0 ≤ 1 → slots + 0 ≤ 3 → ∀ (H : Heap) (locs : List Loc) (ls : Array Slot), HS D A (w μ) s.heap H locs → lv_has ls 8 [] → f_L_beds_b254 μ = some (r, μ') → W p l e (headSpec wsL_beds (rmc 5 1 3 113)).room s m args below meth c H locs cells slots (MQ below (PI D A (cPG cI cG adE ad0 0 μ') r) args s 1 3 A) (F0 m 254 ls []) := by
    intro μ cells slots hc hs H locs ls hS hl h
    unfold f_L_beds_b254 at h
    refine lv_iconst (v := 0) hx hb dL_beds_254 (by decide) ?_
    obtain ⟨rfl, rfl⟩ := pr2 h
    exact r_zretM X (hfin _ _ _ hS) hr hlk (by decide) (by omega) (by omega) dL_beds_255
  have hb251 : ∀ (k11 : Int32 → Int32 → Int32 → Mem → Option (Int32 × Mem)) (G11 GS11 : Nat), 0 ≤ G11 → 0 ≤ GS11 → (∀ (x2 : Int32) (x3 : Int32) (x4 : Int32) (μ : Mem) (cells slots : Nat), cells + G11 ≤ 1 → slots + GS11 ≤ 3 → ∀ (H : Heap) (locs : List Loc) (ls : Array Slot), HS D A (w μ) s.heap H locs → lv_has ls 8 [(0, .ref (ad 0)), (1, .ref (ad 85)), (2, .int x2), (3, .int x3), (4, .int x4)] → k11 x2 x3 x4 μ = some (r, μ') → W p l e (headSpec wsL_beds (rmc 5 1 3 113)).room s m args below meth c H locs cells slots (MQ below (PI D A (cPG cI cG adE ad0 0 μ') r) args s 1 3 A) (F0 m 11 ls [])) → ∀ (x2 : Int32) (x3 : Int32) (x4 : Int32) (s0 : Int32) (s1 : Int32) (μ : Mem) (cells slots : Nat), cells + 0 + G11 ≤ 1 → slots + 0 + GS11 ≤ 3 → ∀ (H : Heap) (locs : List Loc) (ls : Array Slot), HS D A (w μ) s.heap H locs → lv_has ls 8 [(0, .ref (ad 0)), (1, .ref (ad 85)), (2, .int x2), (3, .int x3), (4, .int x4)] → f_L_beds_b251 k11 x2 x3 x4 s0 s1 μ = some (r, μ') → W p l e (headSpec wsL_beds (rmc 5 1 3 113)).room s m args below meth c H locs cells slots (MQ below (PI D A (cPG cI cG adE ad0 0 μ') r) args s 1 3 A) (F0 m 251 ls [.int s0, .int s1]) := by
    intro k11 G11 GS11 hG11 hGS11 hk11 x2 x3 x4 s0 s1 μ cells slots hc hs H locs ls hS hl h
    unfold f_L_beds_b251 at h
    refine lv_icmp_eq (tgt := 256) hx hb dL_beds_251 (by decide) (fun cc => ?_) (fun cc => ?_)
    · replace h := it h cc
      refine lv_iinc (v := x4 + 1) (lv' := [(4, .int (x4 + 1)), (0, .ref (ad 0)), (1, .ref (ad 85)), (2, .int x2), (3, .int x3)]) hx hb dL_beds_256 hl (k := 4) rfl rfl (by decide) rfl (fun ls hl => ?_)
      refine lv_goto (tgt := 11) hx hb dL_beds_259 (by decide) ?_
      exact hk11 x2 x3 (x4 + 1) μ _ _ (by omega) (by omega) _ _ _ hS (lv_sub hl [1, 2, 3, 4, 0] rfl) h
    · replace h := ie h cc
      exact hb254 μ _ _ (by omega) (by omega) _ _ _ hS (lv_sub hl [] rfl) h
  have hb250 : ∀ (k11 : Int32 → Int32 → Int32 → Mem → Option (Int32 × Mem)) (G11 GS11 : Nat), 0 ≤ G11 → 0 ≤ GS11 → (∀ (x2 : Int32) (x3 : Int32) (x4 : Int32) (μ : Mem) (cells slots : Nat), cells + G11 ≤ 1 → slots + GS11 ≤ 3 → ∀ (H : Heap) (locs : List Loc) (ls : Array Slot), HS D A (w μ) s.heap H locs → lv_has ls 8 [(0, .ref (ad 0)), (1, .ref (ad 85)), (2, .int x2), (3, .int x3), (4, .int x4)] → k11 x2 x3 x4 μ = some (r, μ') → W p l e (headSpec wsL_beds (rmc 5 1 3 113)).room s m args below meth c H locs cells slots (MQ below (PI D A (cPG cI cG adE ad0 0 μ') r) args s 1 3 A) (F0 m 11 ls [])) → ∀ (x2 : Int32) (x3 : Int32) (x4 : Int32) (s0 : Int32) (μ : Mem) (cells slots : Nat), cells + 0 + G11 ≤ 1 → slots + 0 + GS11 ≤ 3 → ∀ (H : Heap) (locs : List Loc) (ls : Array Slot), HS D A (w μ) s.heap H locs → lv_has ls 8 [(0, .ref (ad 0)), (1, .ref (ad 85)), (2, .int x2), (3, .int x3), (4, .int x4)] → f_L_beds_b250 k11 x2 x3 x4 s0 μ = some (r, μ') → W p l e (headSpec wsL_beds (rmc 5 1 3 113)).room s m args below meth c H locs cells slots (MQ below (PI D A (cPG cI cG adE ad0 0 μ') r) args s 1 3 A) (F0 m 250 ls [.int s0]) := by
    intro k11 G11 GS11 hG11 hGS11 hk11 x2 x3 x4 s0 μ cells slots hc hs H locs ls hS hl h
    unfold f_L_beds_b250 at h
    refine lv_iconst (v := 0) hx hb dL_beds_250 (by decide) ?_
    exact hb251 k11 G11 GS11 hG11 hGS11 hk11 x2 x3 x4 0 s0 μ _ _ (by omega) (by omega) _ _ _ hS (lv_sub hl [0, 1, 2, 3, 4] rfl) h
  have hb225 : ∀ (k11 : Int32 → Int32 → Int32 → Mem → Option (Int32 × Mem)) (G11 GS11 : Nat), 0 ≤ G11 → 0 ≤ GS11 → (∀ (x2 : Int32) (x3 : Int32) (x4 : Int32) (μ : Mem) (cells slots : Nat), cells + G11 ≤ 1 → slots + GS11 ≤ 3 → ∀ (H : Heap) (locs : List Loc) (ls : Array Slot), HS D A (w μ) s.heap H locs → lv_has ls 8 [(0, .ref (ad 0)), (1, .ref (ad 85)), (2, .int x2), (3, .int x3), (4, .int x4)] → k11 x2 x3 x4 μ = some (r, μ') → W p l e (headSpec wsL_beds (rmc 5 1 3 113)).room s m args below meth c H locs cells slots (MQ below (PI D A (cPG cI cG adE ad0 0 μ') r) args s 1 3 A) (F0 m 11 ls [])) → ∀ (x2 : Int32) (x3 : Int32) (x4 : Int32) (x5 : Int32) (s0 : Int32) (μ : Mem) (cells slots : Nat), cells + 0 + G11 ≤ 1 → slots + 0 + GS11 ≤ 3 → ∀ (H : Heap) (locs : List Loc) (ls : Array Slot), HS D A (w μ) s.heap H locs → lv_has ls 8 [(0, .ref (ad 0)), (1, .ref (ad 85)), (2, .int x2), (3, .int x3), (4, .int x4), (5, .int x5)] → f_L_beds_b225 k11 x2 x3 x4 x5 s0 μ = some (r, μ') → W p l e (headSpec wsL_beds (rmc 5 1 3 113)).room s m args below meth c H locs cells slots (MQ below (PI D A (cPG cI cG adE ad0 0 μ') r) args s 1 3 A) (F0 m 225 ls [.int s0]) := by
    intro k11 G11 GS11 hG11 hGS11 hk11 x2 x3 x4 x5 s0 μ cells slots hc hs H locs ls hS hl h
    unfold f_L_beds_b225 at h
    refine lv_iload hx hb dL_beds_225 (lv_at hl 5 rfl) ?_
    refine lv_iconst (v := 2) hx hb dL_beds_227 (by decide) ?_
    refine lv_icmp_ne (tgt := 250) hx hb dL_beds_228 (by decide) (fun cc => ?_) (fun cc => ?_)
    · replace h := ie h cc
      exact hb250 k11 G11 GS11 hG11 hGS11 hk11 x2 x3 x4 s0 μ _ _ (by omega) (by omega) _ _ _ hS (lv_sub hl [0, 1, 2, 3, 4] rfl) h
    · replace h := it h cc
      refine lv_aload_n hx hb dL_beds_231 rfl (lv_at hl 0 rfl) ?_
      refine lv_iload hx hb dL_beds_232 (lv_at hl 4 rfl) ?_
      refine lv_iconst (v := 3) hx hb dL_beds_234 (by decide) ?_
      obtain ⟨v32, ev32, h⟩ := ob h
      refine r_ci hS (r_runV (As := [.int x4, .int 3]) (rest := [.int s0]) X hS (c_X6_bed l hE (w := w) (ad := ad) (μ := μ) (D := D) (cI := cI) (cG := cG) (cL := cL) hw0 ev32) (cwV 2 X.1.2.2.2.2 gL_beds_X6_bed rfl rfl rfl (by decide +kernel) ⟨Nat.le_of_ble_eq_true rfl, Nat.le_of_ble_eq_true rfl⟩) (q0 := 0) (ci := 4) rfl (hw0.1 μ).1 rfl hl.1 rfl (Nat.le_of_ble_eq_true rfl) dL_beds_235 ⟨Nat.le_trans (m := 1) (by omega) (Nat.le_of_ble_eq_true rfl), Nat.le_trans (m := 3) (by omega) (Nat.le_of_ble_eq_true rfl)⟩) (fun H locs hS => ?_)
      refine lv_aload_n hx hb dL_beds_238 rfl (lv_at hl 0 rfl) ?_
      refine lv_iconst (v := 4) hx hb dL_beds_239 (by decide) ?_
      obtain ⟨v33, ev33, h⟩ := ob h
      refine r_ci hS (r_runV (As := [.int 4]) (rest := [.int v32, .int s0]) X hS (c_X6_whole l hE (w := w) (ad := ad) (μ := μ) (D := D) (cI := cI) (cG := cG) (cL := cL) hw0 ev33) (cwV 1 X.1.2.2.2.2 gL_beds_X6_whole rfl rfl rfl (by decide +kernel) ⟨Nat.le_of_ble_eq_true rfl, Nat.le_of_ble_eq_true rfl⟩) (q0 := 0) (ci := 4) rfl (hw0.1 μ).1 rfl hl.1 rfl (Nat.le_of_ble_eq_true rfl) dL_beds_240 ⟨Nat.le_trans (m := 1) (by omega) (Nat.le_of_ble_eq_true rfl), Nat.le_trans (m := 3) (by omega) (Nat.le_of_ble_eq_true rfl)⟩) (fun H locs hS => ?_)
      refine lv_icmp_gt (tgt := 250) hx hb dL_beds_243 (by decide) (fun cc => ?_) (fun cc => ?_)
      · replace h := it h cc
        exact hb250 k11 G11 GS11 hG11 hGS11 hk11 x2 x3 x4 s0 μ _ _ (by omega) (by omega) _ _ _ hS (lv_sub hl [0, 1, 2, 3, 4] rfl) h
      · replace h := ie h cc
        refine lv_iconst (v := 1) hx hb dL_beds_246 (by decide) ?_
        refine lv_goto (tgt := 251) hx hb dL_beds_247 (by decide) ?_
        exact hb251 k11 G11 GS11 hG11 hGS11 hk11 x2 x3 x4 1 s0 μ _ _ (by omega) (by omega) _ _ _ hS (lv_sub hl [0, 1, 2, 3, 4] rfl) h
  have hb209 : ∀ (k11 : Int32 → Int32 → Int32 → Mem → Option (Int32 × Mem)) (G11 GS11 : Nat), 0 ≤ G11 → 0 ≤ GS11 → (∀ (x2 : Int32) (x3 : Int32) (x4 : Int32) (μ : Mem) (cells slots : Nat), cells + G11 ≤ 1 → slots + GS11 ≤ 3 → ∀ (H : Heap) (locs : List Loc) (ls : Array Slot), HS D A (w μ) s.heap H locs → lv_has ls 8 [(0, .ref (ad 0)), (1, .ref (ad 85)), (2, .int x2), (3, .int x3), (4, .int x4)] → k11 x2 x3 x4 μ = some (r, μ') → W p l e (headSpec wsL_beds (rmc 5 1 3 113)).room s m args below meth c H locs cells slots (MQ below (PI D A (cPG cI cG adE ad0 0 μ') r) args s 1 3 A) (F0 m 11 ls [])) → ∀ (x2 : Int32) (x3 : Int32) (x4 : Int32) (x5 : Int32) (μ : Mem) (cells slots : Nat), cells + 0 + G11 ≤ 1 → slots + 0 + GS11 ≤ 3 → ∀ (H : Heap) (locs : List Loc) (ls : Array Slot), HS D A (w μ) s.heap H locs → lv_has ls 8 [(0, .ref (ad 0)), (1, .ref (ad 85)), (2, .int x2), (3, .int x3), (4, .int x4), (5, .int x5)] → f_L_beds_b209 k11 x2 x3 x4 x5 μ = some (r, μ') → W p l e (headSpec wsL_beds (rmc 5 1 3 113)).room s m args below meth c H locs cells slots (MQ below (PI D A (cPG cI cG adE ad0 0 μ') r) args s 1 3 A) (F0 m 209 ls []) := by
    intro k11 G11 GS11 hG11 hGS11 hk11 x2 x3 x4 x5 μ cells slots hc hs H locs ls hS hl h
    unfold f_L_beds_b209 at h
    refine lv_aload_n hx hb dL_beds_209 rfl (lv_at hl 0 rfl) ?_
    refine lv_iload hx hb dL_beds_210 (lv_at hl 4 rfl) ?_
    refine lv_iconst (v := 4) hx hb dL_beds_212 (by decide) ?_
    obtain ⟨v31, ev31, h⟩ := ob h
    refine r_ci hS (r_runV (As := [.int x4, .int 4]) (rest := []) X hS (c_X6_bed l hE (w := w) (ad := ad) (μ := μ) (D := D) (cI := cI) (cG := cG) (cL := cL) hw0 ev31) (cwV 2 X.1.2.2.2.2 gL_beds_X6_bed rfl rfl rfl (by decide +kernel) ⟨Nat.le_of_ble_eq_true rfl, Nat.le_of_ble_eq_true rfl⟩) (q0 := 0) (ci := 4) rfl (hw0.1 μ).1 rfl hl.1 rfl (Nat.le_of_ble_eq_true rfl) dL_beds_213 ⟨Nat.le_trans (m := 1) (by omega) (Nat.le_of_ble_eq_true rfl), Nat.le_trans (m := 3) (by omega) (Nat.le_of_ble_eq_true rfl)⟩) (fun H locs hS => ?_)
    refine lv_iconst (v := 1) hx hb dL_beds_216 (by decide) ?_
    refine lv_icmp_ne (tgt := 224) hx hb dL_beds_217 (by decide) (fun cc => ?_) (fun cc => ?_)
    · replace h := ie h cc
      refine lv_iconst (v := 0) hx hb dL_beds_224 (by decide) ?_
      exact hb225 k11 G11 GS11 hG11 hGS11 hk11 x2 x3 x4 x5 0 μ _ _ (by omega) (by omega) _ _ _ hS (lv_sub hl [0, 1, 2, 3, 4, 5] rfl) h
    · replace h := it h cc
      refine lv_iconst (v := 1) hx hb dL_beds_220 (by decide) ?_
      refine lv_goto (tgt := 225) hx hb dL_beds_221 (by decide) ?_
      exact hb225 k11 G11 GS11 hG11 hGS11 hk11 x2 x3 x4 x5 1 μ _ _ (by omega) (by omega) _ _ _ hS (lv_sub hl [0, 1, 2, 3, 4, 5] rfl) h
  have hb192 : ∀ (k11 : Int32 → Int32 → Int32 → Mem → Option (Int32 × Mem)) (G11 GS11 : Nat), 0 ≤ G11 → 0 ≤ GS11 → (∀ (x2 : Int32) (x3 : Int32) (x4 : Int32) (μ : Mem) (cells slots : Nat), cells + G11 ≤ 1 → slots + GS11 ≤ 3 → ∀ (H : Heap) (locs : List Loc) (ls : Array Slot), HS D A (w μ) s.heap H locs → lv_has ls 8 [(0, .ref (ad 0)), (1, .ref (ad 85)), (2, .int x2), (3, .int x3), (4, .int x4)] → k11 x2 x3 x4 μ = some (r, μ') → W p l e (headSpec wsL_beds (rmc 5 1 3 113)).room s m args below meth c H locs cells slots (MQ below (PI D A (cPG cI cG adE ad0 0 μ') r) args s 1 3 A) (F0 m 11 ls [])) → ∀ (x2 : Int32) (x3 : Int32) (x4 : Int32) (x5 : Int32) (μ : Mem) (cells slots : Nat), cells + 0 + G11 ≤ 1 → slots + 0 + GS11 ≤ 3 → ∀ (H : Heap) (locs : List Loc) (ls : Array Slot), HS D A (w μ) s.heap H locs → lv_has ls 8 [(0, .ref (ad 0)), (1, .ref (ad 85)), (2, .int x2), (3, .int x3), (4, .int x4), (5, .int x5)] → f_L_beds_b192 k11 x2 x3 x4 x5 μ = some (r, μ') → W p l e (headSpec wsL_beds (rmc 5 1 3 113)).room s m args below meth c H locs cells slots (MQ below (PI D A (cPG cI cG adE ad0 0 μ') r) args s 1 3 A) (F0 m 192 ls []) := by
    intro k11 G11 GS11 hG11 hGS11 hk11 x2 x3 x4 x5 μ cells slots hc hs H locs ls hS hl h
    unfold f_L_beds_b192 at h
    refine lv_aload_n hx hb dL_beds_192 rfl (lv_at hl 0 rfl) ?_
    refine lv_iload hx hb dL_beds_193 (lv_at hl 4 rfl) ?_
    refine lv_iconst (v := 5) hx hb dL_beds_195 (by decide) ?_
    obtain ⟨v30, ev30, h⟩ := ob h
    refine r_ci hS (r_runV (As := [.int x4, .int 5]) (rest := []) X hS (c_X6_bed l hE (w := w) (ad := ad) (μ := μ) (D := D) (cI := cI) (cG := cG) (cL := cL) hw0 ev30) (cwV 2 X.1.2.2.2.2 gL_beds_X6_bed rfl rfl rfl (by decide +kernel) ⟨Nat.le_of_ble_eq_true rfl, Nat.le_of_ble_eq_true rfl⟩) (q0 := 0) (ci := 4) rfl (hw0.1 μ).1 rfl hl.1 rfl (Nat.le_of_ble_eq_true rfl) dL_beds_196 ⟨Nat.le_trans (m := 1) (by omega) (Nat.le_of_ble_eq_true rfl), Nat.le_trans (m := 3) (by omega) (Nat.le_of_ble_eq_true rfl)⟩) (fun H locs hS => ?_)
    refine lv_iconst (v := 1) hx hb dL_beds_199 (by decide) ?_
    refine lv_icmp_ne (tgt := 209) hx hb dL_beds_200 (by decide) (fun cc => ?_) (fun cc => ?_)
    · replace h := ie h cc
      exact hb209 k11 G11 GS11 hG11 hGS11 hk11 x2 x3 x4 x5 μ _ _ (by omega) (by omega) _ _ _ hS (lv_sub hl [0, 1, 2, 3, 4, 5] rfl) h
    · replace h := it h cc
      refine lv_iload hx hb dL_beds_203 (lv_at hl 5 rfl) ?_
      refine lv_iconst (v := 1) hx hb dL_beds_205 (by decide) ?_
      refine lv_icmp_ne (tgt := 254) hx hb dL_beds_206 (by decide) (fun cc => ?_) (fun cc => ?_)
      · replace h := ie h cc
        exact hb254 μ _ _ (by omega) (by omega) _ _ _ hS (lv_sub hl [] rfl) h
      · replace h := it h cc
        exact hb209 k11 G11 GS11 hG11 hGS11 hk11 x2 x3 x4 x5 μ _ _ (by omega) (by omega) _ _ _ hS (lv_sub hl [0, 1, 2, 3, 4, 5] rfl) h
  have hb174 : ∀ (k11 : Int32 → Int32 → Int32 → Mem → Option (Int32 × Mem)) (G11 GS11 : Nat), 0 ≤ G11 → 0 ≤ GS11 → (∀ (x2 : Int32) (x3 : Int32) (x4 : Int32) (μ : Mem) (cells slots : Nat), cells + G11 ≤ 1 → slots + GS11 ≤ 3 → ∀ (H : Heap) (locs : List Loc) (ls : Array Slot), HS D A (w μ) s.heap H locs → lv_has ls 8 [(0, .ref (ad 0)), (1, .ref (ad 85)), (2, .int x2), (3, .int x3), (4, .int x4)] → k11 x2 x3 x4 μ = some (r, μ') → W p l e (headSpec wsL_beds (rmc 5 1 3 113)).room s m args below meth c H locs cells slots (MQ below (PI D A (cPG cI cG adE ad0 0 μ') r) args s 1 3 A) (F0 m 11 ls [])) → ∀ (x2 : Int32) (x3 : Int32) (x4 : Int32) (x5 : Int32) (x6 : Int32) (x7 : Int32) (μ : Mem) (cells slots : Nat), cells + 0 + G11 ≤ 1 → slots + 0 + GS11 ≤ 3 → ∀ (H : Heap) (locs : List Loc) (ls : Array Slot), HS D A (w μ) s.heap H locs → lv_has ls 8 [(0, .ref (ad 0)), (1, .ref (ad 85)), (2, .int x2), (3, .int x3), (4, .int x4), (5, .int x5), (6, .int x6), (7, .int x7)] → f_L_beds_b174 k11 x2 x3 x4 x5 x6 x7 μ = some (r, μ') → W p l e (headSpec wsL_beds (rmc 5 1 3 113)).room s m args below meth c H locs cells slots (MQ below (PI D A (cPG cI cG adE ad0 0 μ') r) args s 1 3 A) (F0 m 174 ls []) := by
    intro k11 G11 GS11 hG11 hGS11 hk11 x2 x3 x4 x5 x6 x7 μ cells slots hc hs H locs ls hS hl h
    unfold f_L_beds_b174 at h
    refine lv_iload hx hb dL_beds_174 (lv_at hl 6 rfl) ?_
    refine lv_iconst (v := 1) hx hb dL_beds_176 (by decide) ?_
    refine lv_icmp_ne (tgt := 192) hx hb dL_beds_177 (by decide) (fun cc => ?_) (fun cc => ?_)
    · replace h := ie h cc
      exact hb192 k11 G11 GS11 hG11 hGS11 hk11 x2 x3 x4 x5 μ _ _ (by omega) (by omega) _ _ _ hS (lv_sub hl [0, 1, 2, 3, 4, 5] rfl) h
    · replace h := it h cc
      refine lv_iload hx hb dL_beds_180 (lv_at hl 7 rfl) ?_
      refine lv_if_lt (tgt := 254) hx hb dL_beds_182 (by decide) (fun cc => ?_) (fun cc => ?_)
      · replace h := it h cc
        exact hb254 μ _ _ (by omega) (by omega) _ _ _ hS (lv_sub hl [] rfl) h
      · replace h := ie h cc
        refine lv_iload hx hb dL_beds_185 (lv_at hl 7 rfl) ?_
        refine lv_bipush (v := 6) hx hb dL_beds_187 (by decide) ?_
        refine lv_icmp_gt (tgt := 254) hx hb dL_beds_189 (by decide) (fun cc => ?_) (fun cc => ?_)
        · replace h := it h cc
          exact hb254 μ _ _ (by omega) (by omega) _ _ _ hS (lv_sub hl [] rfl) h
        · replace h := ie h cc
          exact hb192 k11 G11 GS11 hG11 hGS11 hk11 x2 x3 x4 x5 μ _ _ (by omega) (by omega) _ _ _ hS (lv_sub hl [0, 1, 2, 3, 4, 5] rfl) h
  have hb154 : ∀ (k11 : Int32 → Int32 → Int32 → Mem → Option (Int32 × Mem)) (G11 GS11 : Nat), 0 ≤ G11 → 0 ≤ GS11 → (∀ (x2 : Int32) (x3 : Int32) (x4 : Int32) (μ : Mem) (cells slots : Nat), cells + G11 ≤ 1 → slots + GS11 ≤ 3 → ∀ (H : Heap) (locs : List Loc) (ls : Array Slot), HS D A (w μ) s.heap H locs → lv_has ls 8 [(0, .ref (ad 0)), (1, .ref (ad 85)), (2, .int x2), (3, .int x3), (4, .int x4)] → k11 x2 x3 x4 μ = some (r, μ') → W p l e (headSpec wsL_beds (rmc 5 1 3 113)).room s m args below meth c H locs cells slots (MQ below (PI D A (cPG cI cG adE ad0 0 μ') r) args s 1 3 A) (F0 m 11 ls [])) → ∀ (x2 : Int32) (x3 : Int32) (x4 : Int32) (x5 : Int32) (x6 : Int32) (x7 : Int32) (s0 : Int32) (s1 : Int32) (μ : Mem) (cells slots : Nat), cells + 0 + G11 ≤ 1 → slots + 0 + GS11 ≤ 3 → ∀ (H : Heap) (locs : List Loc) (ls : Array Slot), HS D A (w μ) s.heap H locs → lv_has ls 8 [(0, .ref (ad 0)), (1, .ref (ad 85)), (2, .int x2), (3, .int x3), (4, .int x4), (5, .int x5), (6, .int x6), (7, .int x7)] → f_L_beds_b154 k11 x2 x3 x4 x5 x6 x7 s0 s1 μ = some (r, μ') → W p l e (headSpec wsL_beds (rmc 5 1 3 113)).room s m args below meth c H locs cells slots (MQ below (PI D A (cPG cI cG adE ad0 0 μ') r) args s 1 3 A) (F0 m 154 ls [.int s0, .int s1]) := by
    intro k11 G11 GS11 hG11 hGS11 hk11 x2 x3 x4 x5 x6 x7 s0 s1 μ cells slots hc hs H locs ls hS hl h
    unfold f_L_beds_b154 at h
    refine lv_icmp_ne (tgt := 254) hx hb dL_beds_154 (by decide) (fun cc => ?_) (fun cc => ?_)
    · replace h := ie h cc
      exact hb254 μ _ _ (by omega) (by omega) _ _ _ hS (lv_sub hl [] rfl) h
    · replace h := it h cc
      refine lv_iload hx hb dL_beds_157 (lv_at hl 6 rfl) ?_
      refine lv_if_ne (tgt := 174) hx hb dL_beds_159 (by decide) (fun cc => ?_) (fun cc => ?_)
      · replace h := ie h cc
        exact hb174 k11 G11 GS11 hG11 hGS11 hk11 x2 x3 x4 x5 x6 x7 μ _ _ (by omega) (by omega) _ _ _ hS (lv_sub hl [0, 1, 2, 3, 4, 5, 6, 7] rfl) h
      · replace h := it h cc
        refine lv_iload hx hb dL_beds_162 (lv_at hl 7 rfl) ?_
        refine lv_iconst (v := 1) hx hb dL_beds_164 (by decide) ?_
        refine lv_icmp_lt (tgt := 254) hx hb dL_beds_165 (by decide) (fun cc => ?_) (fun cc => ?_)
        · replace h := it h cc
          exact hb254 μ _ _ (by omega) (by omega) _ _ _ hS (lv_sub hl [] rfl) h
        · replace h := ie h cc
          refine lv_iload hx hb dL_beds_168 (lv_at hl 7 rfl) ?_
          refine lv_iconst (v := 4) hx hb dL_beds_170 (by decide) ?_
          refine lv_icmp_gt (tgt := 254) hx hb dL_beds_171 (by decide) (fun cc => ?_) (fun cc => ?_)
          · replace h := it h cc
            exact hb254 μ _ _ (by omega) (by omega) _ _ _ hS (lv_sub hl [] rfl) h
          · replace h := ie h cc
            exact hb174 k11 G11 GS11 hG11 hGS11 hk11 x2 x3 x4 x5 x6 x7 μ _ _ (by omega) (by omega) _ _ _ hS (lv_sub hl [0, 1, 2, 3, 4, 5, 6, 7] rfl) h
  have hb144 : ∀ (k11 : Int32 → Int32 → Int32 → Mem → Option (Int32 × Mem)) (G11 GS11 : Nat), 0 ≤ G11 → 0 ≤ GS11 → (∀ (x2 : Int32) (x3 : Int32) (x4 : Int32) (μ : Mem) (cells slots : Nat), cells + G11 ≤ 1 → slots + GS11 ≤ 3 → ∀ (H : Heap) (locs : List Loc) (ls : Array Slot), HS D A (w μ) s.heap H locs → lv_has ls 8 [(0, .ref (ad 0)), (1, .ref (ad 85)), (2, .int x2), (3, .int x3), (4, .int x4)] → k11 x2 x3 x4 μ = some (r, μ') → W p l e (headSpec wsL_beds (rmc 5 1 3 113)).room s m args below meth c H locs cells slots (MQ below (PI D A (cPG cI cG adE ad0 0 μ') r) args s 1 3 A) (F0 m 11 ls [])) → ∀ (x2 : Int32) (x3 : Int32) (x4 : Int32) (x5 : Int32) (x6 : Int32) (x7 : Int32) (s0 : Int32) (μ : Mem) (cells slots : Nat), cells + 0 + G11 ≤ 1 → slots + 0 + GS11 ≤ 3 → ∀ (H : Heap) (locs : List Loc) (ls : Array Slot), HS D A (w μ) s.heap H locs → lv_has ls 8 [(0, .ref (ad 0)), (1, .ref (ad 85)), (2, .int x2), (3, .int x3), (4, .int x4), (5, .int x5), (6, .int x6), (7, .int x7)] → f_L_beds_b144 k11 x2 x3 x4 x5 x6 x7 s0 μ = some (r, μ') → W p l e (headSpec wsL_beds (rmc 5 1 3 113)).room s m args below meth c H locs cells slots (MQ below (PI D A (cPG cI cG adE ad0 0 μ') r) args s 1 3 A) (F0 m 144 ls [.int s0]) := by
    intro k11 G11 GS11 hG11 hGS11 hk11 x2 x3 x4 x5 x6 x7 s0 μ cells slots hc hs H locs ls hS hl h
    unfold f_L_beds_b144 at h
    refine lv_iload hx hb dL_beds_144 (lv_at hl 5 rfl) ?_
    refine lv_if_ne (tgt := 153) hx hb dL_beds_146 (by decide) (fun cc => ?_) (fun cc => ?_)
    · replace h := ie h cc
      refine lv_iconst (v := 0) hx hb dL_beds_153 (by decide) ?_
      exact hb154 k11 G11 GS11 hG11 hGS11 hk11 x2 x3 x4 x5 x6 x7 0 s0 μ _ _ (by omega) (by omega) _ _ _ hS (lv_sub hl [0, 1, 2, 3, 4, 5, 6, 7] rfl) h
    · replace h := it h cc
      refine lv_iconst (v := 1) hx hb dL_beds_149 (by decide) ?_
      refine lv_goto (tgt := 154) hx hb dL_beds_150 (by decide) ?_
      exact hb154 k11 G11 GS11 hG11 hGS11 hk11 x2 x3 x4 x5 x6 x7 1 s0 μ _ _ (by omega) (by omega) _ _ _ hS (lv_sub hl [0, 1, 2, 3, 4, 5, 6, 7] rfl) h
  have hb128 : ∀ (k11 : Int32 → Int32 → Int32 → Mem → Option (Int32 × Mem)) (G11 GS11 : Nat), 0 ≤ G11 → 0 ≤ GS11 → (∀ (x2 : Int32) (x3 : Int32) (x4 : Int32) (μ : Mem) (cells slots : Nat), cells + G11 ≤ 1 → slots + GS11 ≤ 3 → ∀ (H : Heap) (locs : List Loc) (ls : Array Slot), HS D A (w μ) s.heap H locs → lv_has ls 8 [(0, .ref (ad 0)), (1, .ref (ad 85)), (2, .int x2), (3, .int x3), (4, .int x4)] → k11 x2 x3 x4 μ = some (r, μ') → W p l e (headSpec wsL_beds (rmc 5 1 3 113)).room s m args below meth c H locs cells slots (MQ below (PI D A (cPG cI cG adE ad0 0 μ') r) args s 1 3 A) (F0 m 11 ls [])) → ∀ (x2 : Int32) (x3 : Int32) (x4 : Int32) (x5 : Int32) (x6 : Int32) (x7 : Int32) (s0 : Int32) (s1 : Int32) (μ : Mem) (cells slots : Nat), cells + 0 + G11 ≤ 1 → slots + 0 + GS11 ≤ 3 → ∀ (H : Heap) (locs : List Loc) (ls : Array Slot), HS D A (w μ) s.heap H locs → lv_has ls 8 [(0, .ref (ad 0)), (1, .ref (ad 85)), (2, .int x2), (3, .int x3), (4, .int x4), (5, .int x5), (6, .int x6), (7, .int x7)] → f_L_beds_b128 k11 x2 x3 x4 x5 x6 x7 s0 s1 μ = some (r, μ') → W p l e (headSpec wsL_beds (rmc 5 1 3 113)).room s m args below meth c H locs cells slots (MQ below (PI D A (cPG cI cG adE ad0 0 μ') r) args s 1 3 A) (F0 m 128 ls [.int s0, .int s1]) := by
    intro k11 G11 GS11 hG11 hGS11 hk11 x2 x3 x4 x5 x6 x7 s0 s1 μ cells slots hc hs H locs ls hS hl h
    unfold f_L_beds_b128 at h
    refine lv_icmp_ne (tgt := 254) hx hb dL_beds_128 (by decide) (fun cc => ?_) (fun cc => ?_)
    · replace h := ie h cc
      exact hb254 μ _ _ (by omega) (by omega) _ _ _ hS (lv_sub hl [] rfl) h
    · replace h := it h cc
      refine lv_iload hx hb dL_beds_131 (lv_at hl 7 rfl) ?_
      refine lv_sipush (v := (-1000)) hx hb dL_beds_133 (by decide) ?_
      refine lv_icmp_ne (tgt := 143) hx hb dL_beds_136 (by decide) (fun cc => ?_) (fun cc => ?_)
      · replace h := ie h cc
        refine lv_iconst (v := 0) hx hb dL_beds_143 (by decide) ?_
        exact hb144 k11 G11 GS11 hG11 hGS11 hk11 x2 x3 x4 x5 x6 x7 0 μ _ _ (by omega) (by omega) _ _ _ hS (lv_sub hl [0, 1, 2, 3, 4, 5, 6, 7] rfl) h
      · replace h := it h cc
        refine lv_iconst (v := 1) hx hb dL_beds_139 (by decide) ?_
        refine lv_goto (tgt := 144) hx hb dL_beds_140 (by decide) ?_
        exact hb144 k11 G11 GS11 hG11 hGS11 hk11 x2 x3 x4 x5 x6 x7 1 μ _ _ (by omega) (by omega) _ _ _ hS (lv_sub hl [0, 1, 2, 3, 4, 5, 6, 7] rfl) h
  have hb118 : ∀ (k11 : Int32 → Int32 → Int32 → Mem → Option (Int32 × Mem)) (G11 GS11 : Nat), 0 ≤ G11 → 0 ≤ GS11 → (∀ (x2 : Int32) (x3 : Int32) (x4 : Int32) (μ : Mem) (cells slots : Nat), cells + G11 ≤ 1 → slots + GS11 ≤ 3 → ∀ (H : Heap) (locs : List Loc) (ls : Array Slot), HS D A (w μ) s.heap H locs → lv_has ls 8 [(0, .ref (ad 0)), (1, .ref (ad 85)), (2, .int x2), (3, .int x3), (4, .int x4)] → k11 x2 x3 x4 μ = some (r, μ') → W p l e (headSpec wsL_beds (rmc 5 1 3 113)).room s m args below meth c H locs cells slots (MQ below (PI D A (cPG cI cG adE ad0 0 μ') r) args s 1 3 A) (F0 m 11 ls [])) → ∀ (x2 : Int32) (x3 : Int32) (x4 : Int32) (x5 : Int32) (x6 : Int32) (x7 : Int32) (s0 : Int32) (μ : Mem) (cells slots : Nat), cells + 0 + G11 ≤ 1 → slots + 0 + GS11 ≤ 3 → ∀ (H : Heap) (locs : List Loc) (ls : Array Slot), HS D A (w μ) s.heap H locs → lv_has ls 8 [(0, .ref (ad 0)), (1, .ref (ad 85)), (2, .int x2), (3, .int x3), (4, .int x4), (5, .int x5), (6, .int x6), (7, .int x7)] → f_L_beds_b118 k11 x2 x3 x4 x5 x6 x7 s0 μ = some (r, μ') → W p l e (headSpec wsL_beds (rmc 5 1 3 113)).room s m args below meth c H locs cells slots (MQ below (PI D A (cPG cI cG adE ad0 0 μ') r) args s 1 3 A) (F0 m 118 ls [.int s0]) := by
    intro k11 G11 GS11 hG11 hGS11 hk11 x2 x3 x4 x5 x6 x7 s0 μ cells slots hc hs H locs ls hS hl h
    unfold f_L_beds_b118 at h
    refine lv_iload hx hb dL_beds_118 (lv_at hl 5 rfl) ?_
    refine lv_if_ne (tgt := 127) hx hb dL_beds_120 (by decide) (fun cc => ?_) (fun cc => ?_)
    · replace h := ie h cc
      refine lv_iconst (v := 0) hx hb dL_beds_127 (by decide) ?_
      exact hb128 k11 G11 GS11 hG11 hGS11 hk11 x2 x3 x4 x5 x6 x7 0 s0 μ _ _ (by omega) (by omega) _ _ _ hS (lv_sub hl [0, 1, 2, 3, 4, 5, 6, 7] rfl) h
    · replace h := it h cc
      refine lv_iconst (v := 1) hx hb dL_beds_123 (by decide) ?_
      refine lv_goto (tgt := 128) hx hb dL_beds_124 (by decide) ?_
      exact hb128 k11 G11 GS11 hG11 hGS11 hk11 x2 x3 x4 x5 x6 x7 1 s0 μ _ _ (by omega) (by omega) _ _ _ hS (lv_sub hl [0, 1, 2, 3, 4, 5, 6, 7] rfl) h
  have hb102 : ∀ (k11 : Int32 → Int32 → Int32 → Mem → Option (Int32 × Mem)) (G11 GS11 : Nat), 0 ≤ G11 → 0 ≤ GS11 → (∀ (x2 : Int32) (x3 : Int32) (x4 : Int32) (μ : Mem) (cells slots : Nat), cells + G11 ≤ 1 → slots + GS11 ≤ 3 → ∀ (H : Heap) (locs : List Loc) (ls : Array Slot), HS D A (w μ) s.heap H locs → lv_has ls 8 [(0, .ref (ad 0)), (1, .ref (ad 85)), (2, .int x2), (3, .int x3), (4, .int x4)] → k11 x2 x3 x4 μ = some (r, μ') → W p l e (headSpec wsL_beds (rmc 5 1 3 113)).room s m args below meth c H locs cells slots (MQ below (PI D A (cPG cI cG adE ad0 0 μ') r) args s 1 3 A) (F0 m 11 ls [])) → ∀ (x2 : Int32) (x3 : Int32) (x4 : Int32) (x5 : Int32) (x6 : Int32) (x7 : Int32) (s0 : Int32) (s1 : Int32) (μ : Mem) (cells slots : Nat), cells + 0 + G11 ≤ 1 → slots + 0 + GS11 ≤ 3 → ∀ (H : Heap) (locs : List Loc) (ls : Array Slot), HS D A (w μ) s.heap H locs → lv_has ls 8 [(0, .ref (ad 0)), (1, .ref (ad 85)), (2, .int x2), (3, .int x3), (4, .int x4), (5, .int x5), (6, .int x6), (7, .int x7)] → f_L_beds_b102 k11 x2 x3 x4 x5 x6 x7 s0 s1 μ = some (r, μ') → W p l e (headSpec wsL_beds (rmc 5 1 3 113)).room s m args below meth c H locs cells slots (MQ below (PI D A (cPG cI cG adE ad0 0 μ') r) args s 1 3 A) (F0 m 102 ls [.int s0, .int s1]) := by
    intro k11 G11 GS11 hG11 hGS11 hk11 x2 x3 x4 x5 x6 x7 s0 s1 μ cells slots hc hs H locs ls hS hl h
    unfold f_L_beds_b102 at h
    refine lv_icmp_eq (tgt := 254) hx hb dL_beds_102 (by decide) (fun cc => ?_) (fun cc => ?_)
    · replace h := it h cc
      exact hb254 μ _ _ (by omega) (by omega) _ _ _ hS (lv_sub hl [] rfl) h
    · replace h := ie h cc
      refine lv_iload hx hb dL_beds_105 (lv_at hl 6 rfl) ?_
      refine lv_sipush (v := (-1000)) hx hb dL_beds_107 (by decide) ?_
      refine lv_icmp_ne (tgt := 117) hx hb dL_beds_110 (by decide) (fun cc => ?_) (fun cc => ?_)
      · replace h := ie h cc
        refine lv_iconst (v := 0) hx hb dL_beds_117 (by decide) ?_
        exact hb118 k11 G11 GS11 hG11 hGS11 hk11 x2 x3 x4 x5 x6 x7 0 μ _ _ (by omega) (by omega) _ _ _ hS (lv_sub hl [0, 1, 2, 3, 4, 5, 6, 7] rfl) h
      · replace h := it h cc
        refine lv_iconst (v := 1) hx hb dL_beds_113 (by decide) ?_
        refine lv_goto (tgt := 118) hx hb dL_beds_114 (by decide) ?_
        exact hb118 k11 G11 GS11 hG11 hGS11 hk11 x2 x3 x4 x5 x6 x7 1 μ _ _ (by omega) (by omega) _ _ _ hS (lv_sub hl [0, 1, 2, 3, 4, 5, 6, 7] rfl) h
  have hb91 : ∀ (k11 : Int32 → Int32 → Int32 → Mem → Option (Int32 × Mem)) (G11 GS11 : Nat), 0 ≤ G11 → 0 ≤ GS11 → (∀ (x2 : Int32) (x3 : Int32) (x4 : Int32) (μ : Mem) (cells slots : Nat), cells + G11 ≤ 1 → slots + GS11 ≤ 3 → ∀ (H : Heap) (locs : List Loc) (ls : Array Slot), HS D A (w μ) s.heap H locs → lv_has ls 8 [(0, .ref (ad 0)), (1, .ref (ad 85)), (2, .int x2), (3, .int x3), (4, .int x4)] → k11 x2 x3 x4 μ = some (r, μ') → W p l e (headSpec wsL_beds (rmc 5 1 3 113)).room s m args below meth c H locs cells slots (MQ below (PI D A (cPG cI cG adE ad0 0 μ') r) args s 1 3 A) (F0 m 11 ls [])) → ∀ (x2 : Int32) (x3 : Int32) (x4 : Int32) (x5 : Int32) (x6 : Int32) (x7 : Int32) (s0 : Int32) (μ : Mem) (cells slots : Nat), cells + 0 + G11 ≤ 1 → slots + 0 + GS11 ≤ 3 → ∀ (H : Heap) (locs : List Loc) (ls : Array Slot), HS D A (w μ) s.heap H locs → lv_has ls 8 [(0, .ref (ad 0)), (1, .ref (ad 85)), (2, .int x2), (3, .int x3), (4, .int x4), (5, .int x5), (6, .int x6), (7, .int x7)] → f_L_beds_b91 k11 x2 x3 x4 x5 x6 x7 s0 μ = some (r, μ') → W p l e (headSpec wsL_beds (rmc 5 1 3 113)).room s m args below meth c H locs cells slots (MQ below (PI D A (cPG cI cG adE ad0 0 μ') r) args s 1 3 A) (F0 m 91 ls [.int s0]) := by
    intro k11 G11 GS11 hG11 hGS11 hk11 x2 x3 x4 x5 x6 x7 s0 μ cells slots hc hs H locs ls hS hl h
    unfold f_L_beds_b91 at h
    refine lv_iload hx hb dL_beds_91 (lv_at hl 5 rfl) ?_
    refine lv_iconst (v := 2) hx hb dL_beds_93 (by decide) ?_
    refine lv_icmp_ne (tgt := 101) hx hb dL_beds_94 (by decide) (fun cc => ?_) (fun cc => ?_)
    · replace h := ie h cc
      refine lv_iconst (v := 0) hx hb dL_beds_101 (by decide) ?_
      exact hb102 k11 G11 GS11 hG11 hGS11 hk11 x2 x3 x4 x5 x6 x7 0 s0 μ _ _ (by omega) (by omega) _ _ _ hS (lv_sub hl [0, 1, 2, 3, 4, 5, 6, 7] rfl) h
    · replace h := it h cc
      refine lv_iconst (v := 1) hx hb dL_beds_97 (by decide) ?_
      refine lv_goto (tgt := 102) hx hb dL_beds_98 (by decide) ?_
      exact hb102 k11 G11 GS11 hG11 hGS11 hk11 x2 x3 x4 x5 x6 x7 1 s0 μ _ _ (by omega) (by omega) _ _ _ hS (lv_sub hl [0, 1, 2, 3, 4, 5, 6, 7] rfl) h
  have hb11 : ∀ (fu : Nat) (x2 : Int32) (x3 : Int32) (x4 : Int32) (μ : Mem) (cells slots : Nat), cells + (fu * 0 + 0) ≤ 1 → slots + (fu * 0 + 0) ≤ 3 → ∀ (H : Heap) (locs : List Loc) (ls : Array Slot), HS D A (w μ) s.heap H locs → lv_has ls 8 [(0, .ref (ad 0)), (1, .ref (ad 85)), (2, .int x2), (3, .int x3), (4, .int x4)] → f_L_beds_b11 fu x2 x3 x4 μ = some (r, μ') → W p l e (headSpec wsL_beds (rmc 5 1 3 113)).room s m args below meth c H locs cells slots (MQ below (PI D A (cPG cI cG adE ad0 0 μ') r) args s 1 3 A) (F0 m 11 ls []) := by
    intro fu
    induction fu with
    | zero =>
      intro x2 x3 x4 μ cells slots hc hs H locs ls hS hl h
      rw [f_L_beds_b11] at h
      cases h
    | succ fuel11 ih11 =>
      intro x2 x3 x4 μ cells slots hc hs H locs ls hS hl h
      rw [f_L_beds_b11] at h
      refine lv_iload hx hb dL_beds_11 (lv_at hl 4 rfl) ?_
      refine lv_bipush (v := 32) hx hb dL_beds_13 (by decide) ?_
      refine lv_icmp_ge (tgt := 262) hx hb dL_beds_15 (by decide) (fun cc => ?_) (fun cc => ?_)
      · replace h := it h cc
        refine lv_aload_n hx hb dL_beds_262 rfl (lv_at hl 0 rfl) ?_
        obtain ⟨v1, ev1, h⟩ := ob h
        refine r_ci hS (r_runV (As := []) (rest := []) X hS (c_X6_nextBed l hE (w := w) (ad := ad) (μ := μ) (D := D) (cI := cI) (cG := cG) (cL := cL) hw0 ev1) (cwV 0 X.1.2.2.2.2 gL_beds_X6_nextBed rfl rfl rfl (by decide +kernel) ⟨Nat.le_of_ble_eq_true rfl, Nat.le_of_ble_eq_true rfl⟩) (q0 := 0) (ci := 4) rfl (hw0.1 μ).1 rfl hl.1 rfl (Nat.le_of_ble_eq_true rfl) dL_beds_263 ⟨Nat.le_trans (m := 1) (by omega) (Nat.le_of_ble_eq_true rfl), Nat.le_trans (m := 3) (by omega) (Nat.le_of_ble_eq_true rfl)⟩) (fun H locs hS => ?_)
        refine lv_istore (lv' := [(4, .int v1), (0, .ref (ad 0)), (1, .ref (ad 85)), (2, .int x2), (3, .int x3)]) hx hb dL_beds_266 hl (by decide) rfl (fun ls hl => ?_)
        refine lv_iconst (v := 0) hx hb dL_beds_268 (by decide) ?_
        refine lv_istore (lv' := [(5, .int 0), (4, .int v1), (0, .ref (ad 0)), (1, .ref (ad 85)), (2, .int x2), (3, .int x3)]) hx hb dL_beds_269 hl (by decide) rfl (fun ls hl => ?_)
        exact hb271 33 x2 x3 v1 0 μ _ _ (by omega) (by omega) _ _ _ hS (lv_sub hl [2, 3, 4, 5, 1, 0] rfl) h
      · replace h := ie h cc
        refine lv_aload_n hx hb dL_beds_18 rfl (lv_at hl 0 rfl) ?_
        refine lv_iload hx hb dL_beds_19 (lv_at hl 4 rfl) ?_
        refine lv_iconst (v := 0) hx hb dL_beds_21 (by decide) ?_
        obtain ⟨v22, ev22, h⟩ := ob h
        refine r_ci hS (r_runV (As := [.int x4, .int 0]) (rest := []) X hS (c_X6_bed l hE (w := w) (ad := ad) (μ := μ) (D := D) (cI := cI) (cG := cG) (cL := cL) hw0 ev22) (cwV 2 X.1.2.2.2.2 gL_beds_X6_bed rfl rfl rfl (by decide +kernel) ⟨Nat.le_of_ble_eq_true rfl, Nat.le_of_ble_eq_true rfl⟩) (q0 := 0) (ci := 4) rfl (hw0.1 μ).1 rfl hl.1 rfl (Nat.le_of_ble_eq_true rfl) dL_beds_22 ⟨Nat.le_trans (m := 1) (by omega) (Nat.le_of_ble_eq_true rfl), Nat.le_trans (m := 3) (by omega) (Nat.le_of_ble_eq_true rfl)⟩) (fun H locs hS => ?_)
        refine lv_istore (lv' := [(5, .int v22), (0, .ref (ad 0)), (1, .ref (ad 85)), (2, .int x2), (3, .int x3), (4, .int x4)]) hx hb dL_beds_25 hl (by decide) rfl (fun ls hl => ?_)
        refine lv_aload_n hx hb dL_beds_27 rfl (lv_at hl 2 rfl) ?_
        refine lv_iload hx hb dL_beds_28 (lv_at hl 0 rfl) ?_
        refine lv_dup2_11 hx hb dL_beds_30 rfl rfl ?_
        obtain ⟨v23, ev23, h⟩ := ob h
        refine r_iald X hS (hA85 μ).1 ev23 dL_beds_31 ?_
        refine lv_iconst (v := 1) hx hb dL_beds_32 (by decide) ?_
        refine lv_iadd hx hb dL_beds_33 ?_
        obtain ⟨μ24, eμ24, h⟩ := ob h
        refine r_iast X hS hA85 eμ24 dL_beds_34 (fun H locs hS => ?_)
        refine lv_iload_n hx hb dL_beds_35 rfl (lv_at hl 3 rfl) ?_
        refine lv_aload_n hx hb dL_beds_36 rfl (lv_at hl 1 rfl) ?_
        refine lv_iload hx hb dL_beds_37 (lv_at hl 5 rfl) ?_
        refine lv_iconst (v := 4) hx hb dL_beds_39 (by decide) ?_
        obtain ⟨v25, ev25, h⟩ := ob h
        refine r_ci hS (r_runV (As := [.int x4, .int 4]) (rest := [.int x2]) X hS (c_X6_bed l hE (w := w) (ad := ad) (μ := μ24) (D := D) (cI := cI) (cG := cG) (cL := cL) hw0 ev25) (cwV 2 X.1.2.2.2.2 gL_beds_X6_bed rfl rfl rfl (by decide +kernel) ⟨Nat.le_of_ble_eq_true rfl, Nat.le_of_ble_eq_true rfl⟩) (q0 := 0) (ci := 4) rfl (hw0.1 μ24).1 rfl hl.1 rfl (Nat.le_of_ble_eq_true rfl) dL_beds_40 ⟨Nat.le_trans (m := 1) (by omega) (Nat.le_of_ble_eq_true rfl), Nat.le_trans (m := 3) (by omega) (Nat.le_of_ble_eq_true rfl)⟩) (fun H locs hS => ?_)
        refine lv_iadd hx hb dL_beds_43 ?_
        refine lv_istore_n (lv' := [(2, .int (x2 + v25)), (5, .int v22), (0, .ref (ad 0)), (1, .ref (ad 85)), (3, .int x3), (4, .int x4)]) hx hb dL_beds_44 rfl hl (by decide) rfl (fun ls hl => ?_)
        refine lv_iload_n hx hb dL_beds_45 rfl (lv_at hl 4 rfl) ?_
        refine lv_aload_n hx hb dL_beds_46 rfl (lv_at hl 2 rfl) ?_
        refine lv_iload hx hb dL_beds_47 (lv_at hl 5 rfl) ?_
        refine lv_iconst (v := 5) hx hb dL_beds_49 (by decide) ?_
        obtain ⟨v26, ev26, h⟩ := ob h
        refine r_ci hS (r_runV (As := [.int x4, .int 5]) (rest := [.int x3]) X hS (c_X6_bed l hE (w := w) (ad := ad) (μ := μ24) (D := D) (cI := cI) (cG := cG) (cL := cL) hw0 ev26) (cwV 2 X.1.2.2.2.2 gL_beds_X6_bed rfl rfl rfl (by decide +kernel) ⟨Nat.le_of_ble_eq_true rfl, Nat.le_of_ble_eq_true rfl⟩) (q0 := 0) (ci := 4) rfl (hw0.1 μ24).1 rfl hl.1 rfl (Nat.le_of_ble_eq_true rfl) dL_beds_50 ⟨Nat.le_trans (m := 1) (by omega) (Nat.le_of_ble_eq_true rfl), Nat.le_trans (m := 3) (by omega) (Nat.le_of_ble_eq_true rfl)⟩) (fun H locs hS => ?_)
        refine lv_iadd hx hb dL_beds_53 ?_
        refine lv_istore_n (lv' := [(3, .int (x3 + v26)), (2, .int (x2 + v25)), (5, .int v22), (0, .ref (ad 0)), (1, .ref (ad 85)), (4, .int x4)]) hx hb dL_beds_54 rfl hl (by decide) rfl (fun ls hl => ?_)
        refine lv_aload_n hx hb dL_beds_55 rfl (lv_at hl 3 rfl) ?_
        refine lv_iload hx hb dL_beds_56 (lv_at hl 5 rfl) ?_
        refine lv_iconst (v := 1) hx hb dL_beds_58 (by decide) ?_
        obtain ⟨v27, ev27, h⟩ := ob h
        refine r_ci hS (r_runV (As := [.int x4, .int 1]) (rest := []) X hS (c_X6_bed l hE (w := w) (ad := ad) (μ := μ24) (D := D) (cI := cI) (cG := cG) (cL := cL) hw0 ev27) (cwV 2 X.1.2.2.2.2 gL_beds_X6_bed rfl rfl rfl (by decide +kernel) ⟨Nat.le_of_ble_eq_true rfl, Nat.le_of_ble_eq_true rfl⟩) (q0 := 0) (ci := 4) rfl (hw0.1 μ24).1 rfl hl.1 rfl (Nat.le_of_ble_eq_true rfl) dL_beds_59 ⟨Nat.le_trans (m := 1) (by omega) (Nat.le_of_ble_eq_true rfl), Nat.le_trans (m := 3) (by omega) (Nat.le_of_ble_eq_true rfl)⟩) (fun H locs hS => ?_)
        refine lv_istore (lv' := [(6, .int v27), (3, .int (x3 + v26)), (2, .int (x2 + v25)), (5, .int v22), (0, .ref (ad 0)), (1, .ref (ad 85)), (4, .int x4)]) hx hb dL_beds_62 hl (by decide) rfl (fun ls hl => ?_)
        refine lv_aload_n hx hb dL_beds_64 rfl (lv_at hl 4 rfl) ?_
        refine lv_iload hx hb dL_beds_65 (lv_at hl 6 rfl) ?_
        refine lv_iconst (v := 2) hx hb dL_beds_67 (by decide) ?_
        obtain ⟨v28, ev28, h⟩ := ob h
        refine r_ci hS (r_runV (As := [.int x4, .int 2]) (rest := []) X hS (c_X6_bed l hE (w := w) (ad := ad) (μ := μ24) (D := D) (cI := cI) (cG := cG) (cL := cL) hw0 ev28) (cwV 2 X.1.2.2.2.2 gL_beds_X6_bed rfl rfl rfl (by decide +kernel) ⟨Nat.le_of_ble_eq_true rfl, Nat.le_of_ble_eq_true rfl⟩) (q0 := 0) (ci := 4) rfl (hw0.1 μ24).1 rfl hl.1 rfl (Nat.le_of_ble_eq_true rfl) dL_beds_68 ⟨Nat.le_trans (m := 1) (by omega) (Nat.le_of_ble_eq_true rfl), Nat.le_trans (m := 3) (by omega) (Nat.le_of_ble_eq_true rfl)⟩) (fun H locs hS => ?_)
        refine lv_istore (lv' := [(7, .int v28), (6, .int v27), (3, .int (x3 + v26)), (2, .int (x2 + v25)), (5, .int v22), (0, .ref (ad 0)), (1, .ref (ad 85)), (4, .int x4)]) hx hb dL_beds_71 hl (by decide) rfl (fun ls hl => ?_)
        refine lv_aload_n hx hb dL_beds_73 rfl (lv_at hl 5 rfl) ?_
        refine lv_iload hx hb dL_beds_74 (lv_at hl 7 rfl) ?_
        refine lv_iconst (v := 3) hx hb dL_beds_76 (by decide) ?_
        obtain ⟨v29, ev29, h⟩ := ob h
        refine r_ci hS (r_runV (As := [.int x4, .int 3]) (rest := []) X hS (c_X6_bed l hE (w := w) (ad := ad) (μ := μ24) (D := D) (cI := cI) (cG := cG) (cL := cL) hw0 ev29) (cwV 2 X.1.2.2.2.2 gL_beds_X6_bed rfl rfl rfl (by decide +kernel) ⟨Nat.le_of_ble_eq_true rfl, Nat.le_of_ble_eq_true rfl⟩) (q0 := 0) (ci := 4) rfl (hw0.1 μ24).1 rfl hl.1 rfl (Nat.le_of_ble_eq_true rfl) dL_beds_77 ⟨Nat.le_trans (m := 1) (by omega) (Nat.le_of_ble_eq_true rfl), Nat.le_trans (m := 3) (by omega) (Nat.le_of_ble_eq_true rfl)⟩) (fun H locs hS => ?_)
        refine lv_sipush (v := (-1000)) hx hb dL_beds_80 (by decide) ?_
        refine lv_icmp_ne (tgt := 90) hx hb dL_beds_83 (by decide) (fun cc => ?_) (fun cc => ?_)
        · replace h := ie h cc
          refine lv_iconst (v := 0) hx hb dL_beds_90 (by decide) ?_
          exact hb91 (f_L_beds_b11 fuel11) (fuel11 * 0 + 0) (fuel11 * 0 + 0) (by omega) (by omega) (fun x2 x3 x4 μ cells slots hc hs => ih11 x2 x3 x4 μ cells slots (by omega) (by omega)) (x2 + v25) (x3 + v26) x4 v22 v27 v28 0 μ24 _ _ (by omega) (by omega) _ _ _ hS (lv_sub hl [5, 6, 3, 2, 7, 4, 1, 0] rfl) h
        · replace h := it h cc
          refine lv_iconst (v := 1) hx hb dL_beds_86 (by decide) ?_
          refine lv_goto (tgt := 91) hx hb dL_beds_87 (by decide) ?_
          exact hb91 (f_L_beds_b11 fuel11) (fuel11 * 0 + 0) (fuel11 * 0 + 0) (by omega) (by omega) (fun x2 x3 x4 μ cells slots hc hs => ih11 x2 x3 x4 μ cells slots (by omega) (by omega)) (x2 + v25) (x3 + v26) x4 v22 v27 v28 1 μ24 _ _ (by omega) (by omega) _ _ _ hS (lv_sub hl [5, 6, 3, 2, 7, 4, 1, 0] rfl) h
  have key : ∀ (μ : Mem) (cells slots : Nat), cells ≤ 1 → slots ≤ 3 → ∀ (H : Heap) (locs : List Loc) (ls : Array Slot), HS D A (w μ) s.heap H locs → lv_has ls 8 [(0, .ref (ad 0))] → f_L_beds_p3 μ = some (r, μ') → W p l e (headSpec wsL_beds (rmc 5 1 3 113)).room s m args below meth c H locs cells slots (MQ below (PI D A (cPG cI cG adE ad0 0 μ') r) args s 1 3 A) (F0 m 3 ls [.ref (ad 85)]) := by
    intro μ cells slots hc hs H locs ls hS hl h
    unfold f_L_beds_p3 at h
    refine lv_astore_n (lv' := [(1, .ref (ad 85)), (0, .ref (ad 0))]) hx hb dL_beds_3 rfl hl (by decide) rfl (fun ls hl => ?_)
    refine lv_iconst (v := 0) hx hb dL_beds_4 (by decide) ?_
    refine lv_istore_n (lv' := [(2, .int 0), (1, .ref (ad 85)), (0, .ref (ad 0))]) hx hb dL_beds_5 rfl hl (by decide) rfl (fun ls hl => ?_)
    refine lv_iconst (v := 0) hx hb dL_beds_6 (by decide) ?_
    refine lv_istore_n (lv' := [(3, .int 0), (2, .int 0), (1, .ref (ad 85)), (0, .ref (ad 0))]) hx hb dL_beds_7 rfl hl (by decide) rfl (fun ls hl => ?_)
    refine lv_iconst (v := 0) hx hb dL_beds_8 (by decide) ?_
    refine lv_istore (lv' := [(4, .int 0), (3, .int 0), (2, .int 0), (1, .ref (ad 85)), (0, .ref (ad 0))]) hx hb dL_beds_9 hl (by decide) rfl (fun ls hl => ?_)
    exact hb11 33 0 0 0 μ _ _ (by omega) (by omega) _ _ _ hS (lv_sub hl [4, 3, 2, 1, 0] rfl) h
  unfold f_L_beds at h
  exact key _ _ _ (Nat.le_refl _) (Nat.le_refl _) _ _ _ hS0 hl h
