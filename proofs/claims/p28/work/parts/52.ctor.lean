section CTOR2
def f_X1_init_tail (q : Nat) (μ : Mem) : Option Mem := (f_X6_fillRow (q + 2) 32 (-1000) μ).bind (fun μ1 => (f_X6_fillRow (q + 3) 32 (-1000) μ1).bind (fun μ2 => (f_X6_fillRow (q + 4) 32 (-1000) μ2).bind (fun μ3 => (some μ3))))
set_option maxHeartbeats 4000000 in
set_option maxRecDepth 100000 in
theorem k_X1_init_tail (l : Launch) {D : va_G} {cI cG cL : ClassId} {A : Nat → Prop} {EN : State → Heap → Prop} (hE : EnOK EN A) {w : Mem → va_W} {ad : Nat → Nat} {q : Nat} {μ μ' : Mem} (hw : BedsAt cI w ad q) (h : f_X1_init_tail q μ = some μ') {p : Program} {e : Env} {s : State} {m : MethodId} {args : Array Value} {below : List Frame} {meth : Method} {c : Code} {H : Heap} {locs : List Loc} {Q : State → Prop} {ls : Array Slot} (X : Cx p s m args c cX1_init 1 wsX1_init RX1 D (tyl cI cG cL) A EN) (hS : HS D A (w μ) s.heap H locs) (hl : lv_has ls 1 [(0, .ref (ad q))]) (kend : ∀ (H : Heap) (locs : List Loc), HS D A (w μ') s.heap H locs → W p l e (headSpec wsX1_init (rmc 1 9 704 22)).room s m args below meth c H locs 9 704 Q (F0 m 109 ls [])) : W p l e (headSpec wsX1_init (rmc 1 9 704 22)).room s m args below meth c H locs 9 704 Q (F0 m 79 ls []) := by
  have hiX1 : ∀ w ∈ u_ws RX1 TX1 9, w ∈ wsX1_init := by decide +kernel
  have mf15 : Cond.fieldLink RX1 15 (TX1 1).1 (TX1 1).2.1 (TX1 1).2.2.1 ∈ wsX1_init := by decide +kernel
  have miX6 : Cond.initialized RX6 ∈ wsX1_init := by decide +kernel
  have ms39 : Cond.static yX6_fillRow ∈ wsX1_init := by decide +kernel
  have mf18 : Cond.fieldLink RX1 18 (TX1 2).1 (TX1 2).2.1 (TX1 2).2.2.1 ∈ wsX1_init := by decide +kernel
  have mf21 : Cond.fieldLink RX1 21 (TX1 3).1 (TX1 3).2.1 (TX1 3).2.2.1 ∈ wsX1_init := by decide +kernel
  have hx := X.1.1
  have hb := X.1.2.1
  unfold f_X1_init_tail at h
  refine lv_aload_n hx hb dX1_init_79 rfl (lv_at hl 0 rfl) ?_
  refine r_get X hS (T := TX1) (k := 1) (hw.1 μ).1 rfl hiX1 (by decide) mf15 rfl dX1_init_80 ?_
  refine lv_sipush (v := (-1000)) hx hb dX1_init_83 (by decide) ?_
  obtain ⟨μ1, eμ1, h⟩ := ob h
  refine r_cv hS (r_runSN (As := [.ref (ad (q + 2)), .int (-1000)]) (rest := []) (host := RX6) X hS (c_X6_fillRow l hE (w := w) (ad := ad) (μ := μ) (D := D) (cI := cI) (cG := cG) (cL := cL) hw.2.2.1 eμ1) (va_cnB 2 X.1.2.2.2.2 gX1_init_X6_fillRow_n39 rfl rfl rfl (X.nest 0 rfl) (X.1.2.2.2.2 _ miX6) (by decide +kernel) ⟨Nat.le_of_ble_eq_true rfl, Nat.le_of_ble_eq_true rfl⟩) (X.1.2.2.2.2 _ ms39) rfl hl.1 rfl (Nat.le_of_ble_eq_true rfl) dX1_init_86 ⟨Nat.le_refl _, Nat.le_refl _⟩) (fun H locs hS => ?_)
  refine lv_aload_n hx hb dX1_init_89 rfl (lv_at hl 0 rfl) ?_
  refine r_get X hS (T := TX1) (k := 2) (hw.1 μ1).1 rfl hiX1 (by decide) mf18 rfl dX1_init_90 ?_
  refine lv_sipush (v := (-1000)) hx hb dX1_init_93 (by decide) ?_
  obtain ⟨μ2, eμ2, h⟩ := ob h
  refine r_cv hS (r_runSN (As := [.ref (ad (q + 3)), .int (-1000)]) (rest := []) (host := RX6) X hS (c_X6_fillRow l hE (w := w) (ad := ad) (μ := μ1) (D := D) (cI := cI) (cG := cG) (cL := cL) hw.2.2.2.1 eμ2) (va_cnB 2 X.1.2.2.2.2 gX1_init_X6_fillRow_n39 rfl rfl rfl (X.nest 0 rfl) (X.1.2.2.2.2 _ miX6) (by decide +kernel) ⟨Nat.le_of_ble_eq_true rfl, Nat.le_of_ble_eq_true rfl⟩) (X.1.2.2.2.2 _ ms39) rfl hl.1 rfl (Nat.le_of_ble_eq_true rfl) dX1_init_96 ⟨Nat.le_refl _, Nat.le_refl _⟩) (fun H locs hS => ?_)
  refine lv_aload_n hx hb dX1_init_99 rfl (lv_at hl 0 rfl) ?_
  refine r_get X hS (T := TX1) (k := 3) (hw.1 μ2).1 rfl hiX1 (by decide) mf21 rfl dX1_init_100 ?_
  refine lv_sipush (v := (-1000)) hx hb dX1_init_103 (by decide) ?_
  obtain ⟨μ3, eμ3, h⟩ := ob h
  refine r_cv hS (r_runSN (As := [.ref (ad (q + 4)), .int (-1000)]) (rest := []) (host := RX6) X hS (c_X6_fillRow l hE (w := w) (ad := ad) (μ := μ2) (D := D) (cI := cI) (cG := cG) (cL := cL) hw.2.2.2.2.1 eμ3) (va_cnB 2 X.1.2.2.2.2 gX1_init_X6_fillRow_n39 rfl rfl rfl (X.nest 0 rfl) (X.1.2.2.2.2 _ miX6) (by decide +kernel) ⟨Nat.le_of_ble_eq_true rfl, Nat.le_of_ble_eq_true rfl⟩) (X.1.2.2.2.2 _ ms39) rfl hl.1 rfl (Nat.le_of_ble_eq_true rfl) dX1_init_106 ⟨Nat.le_refl _, Nat.le_refl _⟩) (fun H locs hS => ?_)
  cases h
  exact kend H locs hS
set_option maxHeartbeats 4000000 in
set_option maxRecDepth 100000 in
theorem c_X1_init (l : Launch) {D : va_G} {cI cG cL : ClassId} {A : Nat → Prop} {EN : State → Heap → Prop} (hE : EnOK EN A) {pre : va_W} {b h0 sz : Nat} (hbl : pre.length = b) (hA : ∀ q, sz ≤ q → A q) {μ1 : Mem} (h : f_X1_init_tail b zμ = some μ1) : Met l yX1_init wsX1_init (rmc 1 9 704 22) (WPreN D (tyl cI cG cL) A EN sz (pre ++ [(h0, .inr (0, [.null, .null, .null, .null, .null, .null, .null, .null, .null]))]) [.ref h0]) (PN (S := Nat → Nat) D A (fun ad => ad b = h0) (fun ad => pre ++ cBeds cI ad b μ1)) 9 704 A := by
  have hiX1 : ∀ w ∈ u_ws RX1 TX1 9, w ∈ wsX1_init := by decide +kernel
  have moi1 : Cond.methodLink RX1 3 Lib.objectInit ∈ wsX1_init := by decide +kernel
  have moi2 : Cond.instanceMethod Lib.objectInit ∈ wsX1_init := by decide +kernel
  have moi3 : Cond.code Lib.objectInit ⟨#[0xb1]⟩ 1 none ∈ wsX1_init := by decide +kernel
  have mai : Cond.arrayClass .int ∈ wsX1_init := by decide +kernel
  have mf9 : Cond.fieldLink RX1 9 (TX1 0).1 (TX1 0).2.1 (TX1 0).2.2.1 ∈ wsX1_init := by decide +kernel
  have mf15 : Cond.fieldLink RX1 15 (TX1 1).1 (TX1 1).2.1 (TX1 1).2.2.1 ∈ wsX1_init := by decide +kernel
  have mf18 : Cond.fieldLink RX1 18 (TX1 2).1 (TX1 2).2.1 (TX1 2).2.2.1 ∈ wsX1_init := by decide +kernel
  have mf21 : Cond.fieldLink RX1 21 (TX1 3).1 (TX1 3).2.1 (TX1 3).2.2.1 ∈ wsX1_init := by decide +kernel
  have mf24 : Cond.fieldLink RX1 24 (TX1 4).1 (TX1 4).2.1 (TX1 4).2.2.1 ∈ wsX1_init := by decide +kernel
  have mf27 : Cond.fieldLink RX1 27 (TX1 5).1 (TX1 5).2.1 (TX1 5).2.2.1 ∈ wsX1_init := by decide +kernel
  have mf30 : Cond.fieldLink RX1 30 (TX1 6).1 (TX1 6).2.1 (TX1 6).2.2.1 ∈ wsX1_init := by decide +kernel
  have mf33 : Cond.fieldLink RX1 33 (TX1 7).1 (TX1 7).2.1 (TX1 7).2.2.1 ∈ wsX1_init := by decide +kernel
  have mf36 : Cond.fieldLink RX1 36 (TX1 8).1 (TX1 8).2.1 (TX1 8).2.2.1 ∈ wsX1_init := by decide +kernel
  refine met_startN (cc := cX1_init) (nL := 1) (own := RX1) hE (by decide) rfl rfl (Nat.le_of_ble_eq_true rfl) (fun p e s m args below meth c ls X hz hS hl hr hlk hin => ?_)
  have hx := X.1.1
  have hb := X.1.2.1
  have hA1 : ∀ q, s.heap.size ≤ q → A q := fun q hq => hA q (Nat.le_trans hz hq)
  replace hl : lv_has ls 1 [(0, .ref h0)] := hl
  refine lv_aload_n hx hb dX1_init_0 rfl (lv_at hl 0 rfl) ?_
  refine r_oi X moi1 moi2 moi3 hl.1 dX1_init_1 ⟨Nat.le_of_ble_eq_true rfl, Nat.le_of_ble_eq_true rfl⟩ ?_
  refine lv_aload_n hx hb dX1_init_4 rfl (lv_at hl 0 rfl) ?_
  refine lv_bipush (v := 32) hx hb dX1_init_5 (by decide) ?_
  refine r_newa X hS hA1 mai 32 (by decide) rfl (Nat.le_of_ble_eq_true rfl) (Nat.le_of_ble_eq_true rfl) (Nat.le_of_ble_eq_true rfl) dX1_init_7 (fun q1 H hS => ?_)
  refine r_pF X hS (T := TX1) (k := 0) rfl hiX1 tyX1 tyX1_ok nmX1 (by decide) mf9 rfl hin rfl rfl rfl (Nat.le_of_ble_eq_true rfl) dX1_init_9 (fun H locs hS => ?_)
  refine lv_aload_n hx hb dX1_init_12 rfl (lv_at hl 0 rfl) ?_
  refine lv_bipush (v := 32) hx hb dX1_init_13 (by decide) ?_
  refine r_newa X hS hA1 mai 32 (by decide) rfl (Nat.le_of_ble_eq_true rfl) (Nat.le_of_ble_eq_true rfl) (Nat.le_of_ble_eq_true rfl) dX1_init_15 (fun q2 H hS => ?_)
  refine r_pF X hS (T := TX1) (k := 1) rfl hiX1 tyX1 tyX1_ok nmX1 (by decide) mf15 rfl hin rfl rfl rfl (Nat.le_of_ble_eq_true rfl) dX1_init_17 (fun H locs hS => ?_)
  refine lv_aload_n hx hb dX1_init_20 rfl (lv_at hl 0 rfl) ?_
  refine lv_bipush (v := 32) hx hb dX1_init_21 (by decide) ?_
  refine r_newa X hS hA1 mai 32 (by decide) rfl (Nat.le_of_ble_eq_true rfl) (Nat.le_of_ble_eq_true rfl) (Nat.le_of_ble_eq_true rfl) dX1_init_23 (fun q3 H hS => ?_)
  refine r_pF X hS (T := TX1) (k := 2) rfl hiX1 tyX1 tyX1_ok nmX1 (by decide) mf18 rfl hin rfl rfl rfl (Nat.le_of_ble_eq_true rfl) dX1_init_25 (fun H locs hS => ?_)
  refine lv_aload_n hx hb dX1_init_28 rfl (lv_at hl 0 rfl) ?_
  refine lv_bipush (v := 32) hx hb dX1_init_29 (by decide) ?_
  refine r_newa X hS hA1 mai 32 (by decide) rfl (Nat.le_of_ble_eq_true rfl) (Nat.le_of_ble_eq_true rfl) (Nat.le_of_ble_eq_true rfl) dX1_init_31 (fun q4 H hS => ?_)
  refine r_pF X hS (T := TX1) (k := 3) rfl hiX1 tyX1 tyX1_ok nmX1 (by decide) mf21 rfl hin rfl rfl rfl (Nat.le_of_ble_eq_true rfl) dX1_init_33 (fun H locs hS => ?_)
  refine lv_aload_n hx hb dX1_init_36 rfl (lv_at hl 0 rfl) ?_
  refine lv_bipush (v := 32) hx hb dX1_init_37 (by decide) ?_
  refine r_newa X hS hA1 mai 32 (by decide) rfl (Nat.le_of_ble_eq_true rfl) (Nat.le_of_ble_eq_true rfl) (Nat.le_of_ble_eq_true rfl) dX1_init_39 (fun q5 H hS => ?_)
  refine r_pF X hS (T := TX1) (k := 4) rfl hiX1 tyX1 tyX1_ok nmX1 (by decide) mf24 rfl hin rfl rfl rfl (Nat.le_of_ble_eq_true rfl) dX1_init_41 (fun H locs hS => ?_)
  refine lv_aload_n hx hb dX1_init_44 rfl (lv_at hl 0 rfl) ?_
  refine lv_bipush (v := 32) hx hb dX1_init_45 (by decide) ?_
  refine r_newa X hS hA1 mai 32 (by decide) rfl (Nat.le_of_ble_eq_true rfl) (Nat.le_of_ble_eq_true rfl) (Nat.le_of_ble_eq_true rfl) dX1_init_47 (fun q6 H hS => ?_)
  refine r_pF X hS (T := TX1) (k := 5) rfl hiX1 tyX1 tyX1_ok nmX1 (by decide) mf27 rfl hin rfl rfl rfl (Nat.le_of_ble_eq_true rfl) dX1_init_49 (fun H locs hS => ?_)
  refine lv_aload_n hx hb dX1_init_52 rfl (lv_at hl 0 rfl) ?_
  refine lv_sipush (v := 160) hx hb dX1_init_53 (by decide) ?_
  refine r_newa X hS hA1 mai 160 (by decide) rfl (Nat.le_of_ble_eq_true rfl) (Nat.le_of_ble_eq_true rfl) (Nat.le_of_ble_eq_true rfl) dX1_init_56 (fun q7 H hS => ?_)
  refine r_pF X hS (T := TX1) (k := 6) rfl hiX1 tyX1 tyX1_ok nmX1 (by decide) mf30 rfl hin rfl rfl rfl (Nat.le_of_ble_eq_true rfl) dX1_init_58 (fun H locs hS => ?_)
  refine lv_aload_n hx hb dX1_init_61 rfl (lv_at hl 0 rfl) ?_
  refine lv_sipush (v := 160) hx hb dX1_init_62 (by decide) ?_
  refine r_newa X hS hA1 mai 160 (by decide) rfl (Nat.le_of_ble_eq_true rfl) (Nat.le_of_ble_eq_true rfl) (Nat.le_of_ble_eq_true rfl) dX1_init_65 (fun q8 H hS => ?_)
  refine r_pF X hS (T := TX1) (k := 7) rfl hiX1 tyX1 tyX1_ok nmX1 (by decide) mf33 rfl hin rfl rfl rfl (Nat.le_of_ble_eq_true rfl) dX1_init_67 (fun H locs hS => ?_)
  refine lv_aload_n hx hb dX1_init_70 rfl (lv_at hl 0 rfl) ?_
  refine lv_sipush (v := 192) hx hb dX1_init_71 (by decide) ?_
  refine r_newa X hS hA1 mai 192 (by decide) rfl (Nat.le_of_ble_eq_true rfl) (Nat.le_of_ble_eq_true rfl) (Nat.le_of_ble_eq_true rfl) dX1_init_74 (fun q9 H hS => ?_)
  refine r_pF X hS (T := TX1) (k := 8) rfl hiX1 tyX1 tyX1_ok nmX1 (by decide) mf36 rfl hin rfl rfl rfl (Nat.le_of_ble_eq_true rfl) dX1_init_76 (fun H locs hS => ?_)
  replace hS := hS.cast (w2 := pre ++ cBeds cI (adl b [h0, q1, q2, q3, q4, q5, q6, q7, q8, q9]) b zμ) (by unfold cBeds fsBeds; simp only [adl_0, adl_i]; first | done | rfl)
  refine k_X1_init_tail l hE (w := fun μ => pre ++ (cBeds cI (adl b [h0, q1, q2, q3, q4, q5, q6, q7, q8, q9]) b μ ++ [])) (beds_at (Sub.self hbl (fun _ => rfl))) h X (hS.cast (by rw [List.append_nil])) (by rw [adl_0]; exact hl) (fun H locs hS => ?_)
  exact r_retN X (adl b [h0, q1, q2, q3, q4, q5, q6, q7, q8, q9]) adl_0 (hS.cast (by rw [List.append_nil])) hr hlk dX1_init_109
def tμ (b : Nat) : Mem := fun k j => if k = b ∧ j = 3 then -1000 else 0
set_option maxHeartbeats 4000000 in
set_option maxRecDepth 100000 in
theorem c_X3_init (l : Launch) {D : va_G} {cI cG cL : ClassId} {A : Nat → Prop} {EN : State → Heap → Prop} (hE : EnOK EN A) {pre : va_W} {b h0 sz : Nat} (hbl : pre.length = b) (hA : ∀ q, sz ≤ q → A q) {adE : Nat → Nat} : Met l yX3_init wsX3_init (rmc 1 1 150 12) (WPreN D (tyl cI cG cL) A EN sz (pre ++ [(h0, .inr (1, [.null, .int 0, .int 0, .int 0, .null, .int 0, .int 0]))]) [.ref h0]) (PN (S := Nat → Nat) D A (fun ad => ad b = h0) (fun ad => pre ++ cText cI adE ad b (tμ b))) 1 150 A := by
  have hiX3 : ∀ w ∈ u_ws RX3 TX3 7, w ∈ wsX3_init := by decide +kernel
  have moi1 : Cond.methodLink RX3 3 Lib.objectInit ∈ wsX3_init := by decide +kernel
  have moi2 : Cond.instanceMethod Lib.objectInit ∈ wsX3_init := by decide +kernel
  have moi3 : Cond.code Lib.objectInit ⟨#[0xb1]⟩ 1 none ∈ wsX3_init := by decide +kernel
  have mai : Cond.arrayClass .int ∈ wsX3_init := by decide +kernel
  have mf9 : Cond.fieldLink RX3 9 (TX3 0).1 (TX3 0).2.1 (TX3 0).2.2.1 ∈ wsX3_init := by decide +kernel
  have mf15 : Cond.fieldLink RX3 15 (TX3 1).1 (TX3 1).2.1 (TX3 1).2.2.1 ∈ wsX3_init := by decide +kernel
  have mf19 : Cond.fieldLink RX3 19 (TX3 2).1 (TX3 2).2.1 (TX3 2).2.2.1 ∈ wsX3_init := by decide +kernel
  have mf22 : Cond.fieldLink RX3 22 (TX3 3).1 (TX3 3).2.1 (TX3 3).2.2.1 ∈ wsX3_init := by decide +kernel
  have mf25 : Cond.fieldLink RX3 25 (TX3 4).1 (TX3 4).2.1 (TX3 4).2.2.1 ∈ wsX3_init := by decide +kernel
  have mf29 : Cond.fieldLink RX3 29 (TX3 5).1 (TX3 5).2.1 (TX3 5).2.2.1 ∈ wsX3_init := by decide +kernel
  have mf32 : Cond.fieldLink RX3 32 (TX3 6).1 (TX3 6).2.1 (TX3 6).2.2.1 ∈ wsX3_init := by decide +kernel
  refine met_startN (cc := cX3_init) (nL := 1) (own := RX3) hE (by decide) rfl rfl (Nat.le_of_ble_eq_true rfl) (fun p e s m args below meth c ls X hz hS hl hr hlk hin => ?_)
  have hx := X.1.1
  have hb := X.1.2.1
  have hA1 : ∀ q, s.heap.size ≤ q → A q := fun q hq => hA q (Nat.le_trans hz hq)
  replace hl : lv_has ls 1 [(0, .ref h0)] := hl
  refine lv_aload_n hx hb dX3_init_0 rfl (lv_at hl 0 rfl) ?_
  refine r_oi X moi1 moi2 moi3 hl.1 dX3_init_1 ⟨Nat.le_of_ble_eq_true rfl, Nat.le_of_ble_eq_true rfl⟩ ?_
  refine lv_aload_n hx hb dX3_init_4 rfl (lv_at hl 0 rfl) ?_
  refine lv_sipush (v := 150) hx hb dX3_init_5 (by decide) ?_
  refine r_newa X hS hA1 mai 150 (by decide) rfl (Nat.le_of_ble_eq_true rfl) (Nat.le_of_ble_eq_true rfl) (Nat.le_of_ble_eq_true rfl) dX3_init_8 (fun q1 H hS => ?_)
  refine r_pF X hS (T := TX3) (k := 0) rfl hiX3 tyX3 tyX3_ok nmX3 (by decide) mf9 rfl hin rfl rfl rfl (Nat.le_of_ble_eq_true rfl) dX3_init_10 (fun H locs hS => ?_)
  refine lv_aload_n hx hb dX3_init_13 rfl (lv_at hl 0 rfl) ?_
  refine lv_iconst (v := 0) hx hb dX3_init_14 (by decide) ?_
  refine r_pL X hS (T := TX3) (k := 1) rfl hiX3 tyX3 tyX3_ok nmX3 (by decide) mf15 rfl rfl rfl (Nat.le_of_ble_eq_true rfl) dX3_init_15 (fun H locs hS => ?_)
  refine lv_aload_n hx hb dX3_init_18 rfl (lv_at hl 0 rfl) ?_
  refine lv_iconst (v := 0) hx hb dX3_init_19 (by decide) ?_
  refine r_pL X hS (T := TX3) (k := 2) rfl hiX3 tyX3 tyX3_ok nmX3 (by decide) mf19 rfl rfl rfl (Nat.le_of_ble_eq_true rfl) dX3_init_20 (fun H locs hS => ?_)
  refine lv_aload_n hx hb dX3_init_23 rfl (lv_at hl 0 rfl) ?_
  refine lv_sipush (v := (-1000)) hx hb dX3_init_24 (by decide) ?_
  refine r_pL X hS (T := TX3) (k := 3) rfl hiX3 tyX3 tyX3_ok nmX3 (by decide) mf22 rfl rfl rfl (Nat.le_of_ble_eq_true rfl) dX3_init_27 (fun H locs hS => ?_)
  refine lv_aload_n hx hb dX3_init_30 rfl (lv_at hl 0 rfl) ?_
  refine lv_null hx hb dX3_init_31 ?_
  refine r_pL X hS (T := TX3) (k := 4) rfl hiX3 tyX3 tyX3_ok nmX3 (by decide) mf25 rfl rfl rfl (Nat.le_of_ble_eq_true rfl) dX3_init_32 (fun H locs hS => ?_)
  refine lv_aload_n hx hb dX3_init_35 rfl (lv_at hl 0 rfl) ?_
  refine lv_iconst (v := 0) hx hb dX3_init_36 (by decide) ?_
  refine r_pL X hS (T := TX3) (k := 5) rfl hiX3 tyX3 tyX3_ok nmX3 (by decide) mf29 rfl rfl rfl (Nat.le_of_ble_eq_true rfl) dX3_init_37 (fun H locs hS => ?_)
  refine lv_aload_n hx hb dX3_init_40 rfl (lv_at hl 0 rfl) ?_
  refine lv_iconst (v := 0) hx hb dX3_init_41 (by decide) ?_
  refine r_pL X hS (T := TX3) (k := 6) rfl hiX3 tyX3 tyX3_ok nmX3 (by decide) mf32 rfl rfl rfl (Nat.le_of_ble_eq_true rfl) dX3_init_42 (fun H locs hS => ?_)
  have z1 : tμ b (b + 1) = fun _ => 0 := by
    funext j
    exact if_neg (by omega)
  have z0 : ∀ j, ¬ j = 3 → tμ b b j = 0 := fun j hj => if_neg (by omega)
  have z3 : tμ b b 3 = -1000 := if_pos ⟨rfl, rfl⟩
  replace hS := hS.cast (w2 := pre ++ cText cI adE (adl b [h0, q1]) b (tμ b)) (by unfold cText fsText; rw [z1, z0 1 (by decide), z0 2 (by decide), z3, z0 4 (by decide), z0 5 (by decide), z0 6 (by decide), adl_0, adl_i, cmdv_z rfl]; rfl)
  exact r_retN X (adl b [h0, q1]) adl_0 hS hr hlk dX3_init_45
def f_X4_init_tail (q : Nat) (μ : Mem) : Option Mem := (pf μ q 6 0).bind (fun μ1 => (pf μ1 q 7 (-1000)).bind (fun μ2 => (pf μ2 q 8 0).bind (fun μ3 => (pf μ3 q 9 0).bind (fun μ4 => (f_X6_fillRow (q + 14) 4 (-1000) μ4).bind (fun μ5 => (f_X6_fillRow (q + 15) 4 (-1000) μ5).bind (fun μ6 => (f_X1_useFresh (q + 1) 0 1 μ6).bind (fun μ7 => (f_X1_keepFresh (q + 1) μ7).bind (fun μ8 => (f_X6_setCell (q + 11) 2 0 1 μ8).bind (fun μ9 => (f_X6_setCell (q + 13) 2 0 1 μ9).bind (fun μ10 => (f_X6_setCell (q + 12) 2 1 (-1000) μ10).bind (fun μ11 => (some μ11))))))))))))
set_option maxHeartbeats 4000000 in
set_option maxRecDepth 100000 in
theorem k_X4_init_tail (l : Launch) {D : va_G} {cI cG cL : ClassId} {A : Nat → Prop} {EN : State → Heap → Prop} (hE : EnOK EN A) {w : Mem → va_W} {ad : Nat → Nat} {q : Nat} {μ μ' : Mem} (hw : GardenAt cI w ad q) (h : f_X4_init_tail q μ = some μ') {p : Program} {e : Env} {s : State} {m : MethodId} {args : Array Value} {below : List Frame} {meth : Method} {c : Code} {H : Heap} {locs : List Loc} {Q : State → Prop} {ls : Array Slot} (X : Cx p s m args c cX4_init 1 wsX4_init RX4 D (tyl cI cG cL) A EN) (hS : HS D A (w μ) s.heap H locs) (hl : lv_has ls 1 [(0, .ref (ad q))]) (kend : ∀ (H : Heap) (locs : List Loc), HS D A (w μ') s.heap H locs → W p l e (headSpec wsX4_init (rmc 2 15 727 44)).room s m args below meth c H locs 15 727 Q (F0 m 137 ls [])) : W p l e (headSpec wsX4_init (rmc 2 15 727 44)).room s m args below meth c H locs 15 727 Q (F0 m 50 ls []) := by
  have hiX4 : ∀ w ∈ u_ws RX4 TX4 10, w ∈ wsX4_init := by decide +kernel
  have mf34 : Cond.fieldLink RX4 34 (TX4 6).1 (TX4 6).2.1 (TX4 6).2.2.1 ∈ wsX4_init := by decide +kernel
  have mf38 : Cond.fieldLink RX4 38 (TX4 7).1 (TX4 7).2.1 (TX4 7).2.2.1 ∈ wsX4_init := by decide +kernel
  have mf42 : Cond.fieldLink RX4 42 (TX4 8).1 (TX4 8).2.1 (TX4 8).2.2.1 ∈ wsX4_init := by decide +kernel
  have mf45 : Cond.fieldLink RX4 45 (TX4 9).1 (TX4 9).2.1 (TX4 9).2.2.1 ∈ wsX4_init := by decide +kernel
  have mf28 : Cond.fieldLink RX4 28 (TX4 4).1 (TX4 4).2.1 (TX4 4).2.2.1 ∈ wsX4_init := by decide +kernel
  have miX6 : Cond.initialized RX6 ∈ wsX4_init := by decide +kernel
  have ms48 : Cond.static yX6_fillRow ∈ wsX4_init := by decide +kernel
  have mf31 : Cond.fieldLink RX4 31 (TX4 5).1 (TX4 5).2.1 (TX4 5).2.2.1 ∈ wsX4_init := by decide +kernel
  have mf12 : Cond.fieldLink RX4 12 (TX4 0).1 (TX4 0).2.1 (TX4 0).2.2.1 ∈ wsX4_init := by decide +kernel
  have mf18 : Cond.fieldLink RX4 18 (TX4 1).1 (TX4 1).2.1 (TX4 1).2.2.1 ∈ wsX4_init := by decide +kernel
  have ms59 : Cond.static yX6_setCell ∈ wsX4_init := by decide +kernel
  have mf25 : Cond.fieldLink RX4 25 (TX4 3).1 (TX4 3).2.1 (TX4 3).2.2.1 ∈ wsX4_init := by decide +kernel
  have mf22 : Cond.fieldLink RX4 22 (TX4 2).1 (TX4 2).2.1 (TX4 2).2.2.1 ∈ wsX4_init := by decide +kernel
  have hx := X.1.1
  have hb := X.1.2.1
  unfold f_X4_init_tail at h
  refine lv_aload_n hx hb dX4_init_50 rfl (lv_at hl 0 rfl) ?_
  refine lv_iconst (v := 0) hx hb dX4_init_51 (by decide) ?_
  obtain ⟨μ1, eμ1, h⟩ := ob h
  refine r_putp (w := w) X hS (T := TX4) (k := 6) eμ1 hw.1 rfl hiX4 tyX4 tyX4_ok nmX4 (by decide) mf34 rfl rfl rfl (Nat.le_of_ble_eq_true rfl) rfl dX4_init_52 (fun H locs hS => ?_)
  refine lv_aload_n hx hb dX4_init_55 rfl (lv_at hl 0 rfl) ?_
  refine lv_sipush (v := (-1000)) hx hb dX4_init_56 (by decide) ?_
  obtain ⟨μ2, eμ2, h⟩ := ob h
  refine r_putp (w := w) X hS (T := TX4) (k := 7) eμ2 hw.1 rfl hiX4 tyX4 tyX4_ok nmX4 (by decide) mf38 rfl rfl rfl (Nat.le_of_ble_eq_true rfl) rfl dX4_init_59 (fun H locs hS => ?_)
  refine lv_aload_n hx hb dX4_init_62 rfl (lv_at hl 0 rfl) ?_
  refine lv_iconst (v := 0) hx hb dX4_init_63 (by decide) ?_
  obtain ⟨μ3, eμ3, h⟩ := ob h
  refine r_putp (w := w) X hS (T := TX4) (k := 8) eμ3 hw.1 rfl hiX4 tyX4 tyX4_ok nmX4 (by decide) mf42 rfl rfl rfl (Nat.le_of_ble_eq_true rfl) rfl dX4_init_64 (fun H locs hS => ?_)
  refine lv_aload_n hx hb dX4_init_67 rfl (lv_at hl 0 rfl) ?_
  refine lv_iconst (v := 0) hx hb dX4_init_68 (by decide) ?_
  obtain ⟨μ4, eμ4, h⟩ := ob h
  refine r_putp (w := w) X hS (T := TX4) (k := 9) eμ4 hw.1 rfl hiX4 tyX4 tyX4_ok nmX4 (by decide) mf45 rfl rfl rfl (Nat.le_of_ble_eq_true rfl) rfl dX4_init_69 (fun H locs hS => ?_)
  refine lv_aload_n hx hb dX4_init_72 rfl (lv_at hl 0 rfl) ?_
  refine r_get X hS (T := TX4) (k := 4) (hw.1 μ4).1 rfl hiX4 (by decide) mf28 rfl dX4_init_73 ?_
  refine lv_sipush (v := (-1000)) hx hb dX4_init_76 (by decide) ?_
  obtain ⟨μ5, eμ5, h⟩ := ob h
  refine r_cv hS (r_runSN (As := [.ref (ad (q + 14)), .int (-1000)]) (rest := []) (host := RX6) X hS (c_X6_fillRow l hE (w := w) (ad := ad) (μ := μ4) (D := D) (cI := cI) (cG := cG) (cL := cL) hw.2.2.2.2.2.1 eμ5) (va_cnB 2 X.1.2.2.2.2 gX4_init_X6_fillRow_n48 rfl rfl rfl (X.nest 1 rfl) (X.1.2.2.2.2 _ miX6) (by decide +kernel) ⟨Nat.le_of_ble_eq_true rfl, Nat.le_of_ble_eq_true rfl⟩) (X.1.2.2.2.2 _ ms48) rfl hl.1 rfl (Nat.le_of_ble_eq_true rfl) dX4_init_79 ⟨Nat.le_refl _, Nat.le_refl _⟩) (fun H locs hS => ?_)
  refine lv_aload_n hx hb dX4_init_82 rfl (lv_at hl 0 rfl) ?_
  refine r_get X hS (T := TX4) (k := 5) (hw.1 μ5).1 rfl hiX4 (by decide) mf31 rfl dX4_init_83 ?_
  refine lv_sipush (v := (-1000)) hx hb dX4_init_86 (by decide) ?_
  obtain ⟨μ6, eμ6, h⟩ := ob h
  refine r_cv hS (r_runSN (As := [.ref (ad (q + 15)), .int (-1000)]) (rest := []) (host := RX6) X hS (c_X6_fillRow l hE (w := w) (ad := ad) (μ := μ5) (D := D) (cI := cI) (cG := cG) (cL := cL) hw.2.2.2.2.2.2 eμ6) (va_cnB 2 X.1.2.2.2.2 gX4_init_X6_fillRow_n48 rfl rfl rfl (X.nest 1 rfl) (X.1.2.2.2.2 _ miX6) (by decide +kernel) ⟨Nat.le_of_ble_eq_true rfl, Nat.le_of_ble_eq_true rfl⟩) (X.1.2.2.2.2 _ ms48) rfl hl.1 rfl (Nat.le_of_ble_eq_true rfl) dX4_init_89 ⟨Nat.le_refl _, Nat.le_refl _⟩) (fun H locs hS => ?_)
  refine lv_aload_n hx hb dX4_init_92 rfl (lv_at hl 0 rfl) ?_
  refine r_get X hS (T := TX4) (k := 0) (hw.1 μ6).1 rfl hiX4 (by decide) mf12 rfl dX4_init_93 ?_
  refine lv_iconst (v := 0) hx hb dX4_init_96 (by decide) ?_
  refine lv_iconst (v := 1) hx hb dX4_init_97 (by decide) ?_
  obtain ⟨μ7, eμ7, h⟩ := ob h
  refine r_cv hS (r_runV (As := [.int 0, .int 1]) (rest := []) X hS (c_X1_useFresh l hE (w := w) (ad := ad) (μ := μ6) (D := D) (cI := cI) (cG := cG) (cL := cL) hw.2.1 eμ7) (cwV 2 X.1.2.2.2.2 gX4_init_X1_useFresh rfl rfl rfl (by decide +kernel) ⟨Nat.le_of_ble_eq_true rfl, Nat.le_of_ble_eq_true rfl⟩) (q0 := (q + 1)) (ci := 0) rfl (hw.2.1.1 μ6).1 rfl hl.1 rfl (Nat.le_of_ble_eq_true rfl) dX4_init_98 ⟨Nat.le_refl _, Nat.le_refl _⟩) (fun H locs hS => ?_)
  refine lv_aload_n hx hb dX4_init_101 rfl (lv_at hl 0 rfl) ?_
  refine r_get X hS (T := TX4) (k := 0) (hw.1 μ7).1 rfl hiX4 (by decide) mf12 rfl dX4_init_102 ?_
  obtain ⟨μ8, eμ8, h⟩ := ob h
  refine r_cv hS (r_runV (As := []) (rest := []) X hS (c_X1_keepFresh l hE (w := w) (ad := ad) (μ := μ7) (D := D) (cI := cI) (cG := cG) (cL := cL) hw.2.1 eμ8) (cwV 0 X.1.2.2.2.2 gX4_init_X1_keepFresh rfl rfl rfl (by decide +kernel) ⟨Nat.le_of_ble_eq_true rfl, Nat.le_of_ble_eq_true rfl⟩) (q0 := (q + 1)) (ci := 0) rfl (hw.2.1.1 μ7).1 rfl hl.1 rfl (Nat.le_of_ble_eq_true rfl) dX4_init_105 ⟨Nat.le_refl _, Nat.le_refl _⟩) (fun H locs hS => ?_)
  refine lv_aload_n hx hb dX4_init_108 rfl (lv_at hl 0 rfl) ?_
  refine r_get X hS (T := TX4) (k := 1) (hw.1 μ8).1 rfl hiX4 (by decide) mf18 rfl dX4_init_109 ?_
  refine lv_iconst (v := 0) hx hb dX4_init_112 (by decide) ?_
  refine lv_iconst (v := 1) hx hb dX4_init_113 (by decide) ?_
  obtain ⟨μ9, eμ9, h⟩ := ob h
  refine r_cv hS (r_runSN (As := [.ref (ad (q + 11)), .int 0, .int 1]) (rest := []) (host := RX6) X hS (c_X6_setCell l hE (w := w) (ad := ad) (μ := μ8) (D := D) (cI := cI) (cG := cG) (cL := cL) hw.2.2.1 eμ9) (va_cnB 3 X.1.2.2.2.2 gX4_init_X6_setCell_n59 rfl rfl rfl (X.nest 3 rfl) (X.1.2.2.2.2 _ miX6) (by decide +kernel) ⟨Nat.le_of_ble_eq_true rfl, Nat.le_of_ble_eq_true rfl⟩) (X.1.2.2.2.2 _ ms59) rfl hl.1 rfl (Nat.le_of_ble_eq_true rfl) dX4_init_114 ⟨Nat.le_refl _, Nat.le_refl _⟩) (fun H locs hS => ?_)
  refine lv_aload_n hx hb dX4_init_117 rfl (lv_at hl 0 rfl) ?_
  refine r_get X hS (T := TX4) (k := 3) (hw.1 μ9).1 rfl hiX4 (by decide) mf25 rfl dX4_init_118 ?_
  refine lv_iconst (v := 0) hx hb dX4_init_121 (by decide) ?_
  refine lv_iconst (v := 1) hx hb dX4_init_122 (by decide) ?_
  obtain ⟨μ10, eμ10, h⟩ := ob h
  refine r_cv hS (r_runSN (As := [.ref (ad (q + 13)), .int 0, .int 1]) (rest := []) (host := RX6) X hS (c_X6_setCell l hE (w := w) (ad := ad) (μ := μ9) (D := D) (cI := cI) (cG := cG) (cL := cL) hw.2.2.2.2.1 eμ10) (va_cnB 3 X.1.2.2.2.2 gX4_init_X6_setCell_n59 rfl rfl rfl (X.nest 3 rfl) (X.1.2.2.2.2 _ miX6) (by decide +kernel) ⟨Nat.le_of_ble_eq_true rfl, Nat.le_of_ble_eq_true rfl⟩) (X.1.2.2.2.2 _ ms59) rfl hl.1 rfl (Nat.le_of_ble_eq_true rfl) dX4_init_123 ⟨Nat.le_refl _, Nat.le_refl _⟩) (fun H locs hS => ?_)
  refine lv_aload_n hx hb dX4_init_126 rfl (lv_at hl 0 rfl) ?_
  refine r_get X hS (T := TX4) (k := 2) (hw.1 μ10).1 rfl hiX4 (by decide) mf22 rfl dX4_init_127 ?_
  refine lv_iconst (v := 1) hx hb dX4_init_130 (by decide) ?_
  refine lv_sipush (v := (-1000)) hx hb dX4_init_131 (by decide) ?_
  obtain ⟨μ11, eμ11, h⟩ := ob h
  refine r_cv hS (r_runSN (As := [.ref (ad (q + 12)), .int 1, .int (-1000)]) (rest := []) (host := RX6) X hS (c_X6_setCell l hE (w := w) (ad := ad) (μ := μ10) (D := D) (cI := cI) (cG := cG) (cL := cL) hw.2.2.2.1 eμ11) (va_cnB 3 X.1.2.2.2.2 gX4_init_X6_setCell_n59 rfl rfl rfl (X.nest 3 rfl) (X.1.2.2.2.2 _ miX6) (by decide +kernel) ⟨Nat.le_of_ble_eq_true rfl, Nat.le_of_ble_eq_true rfl⟩) (X.1.2.2.2.2 _ ms59) rfl hl.1 rfl (Nat.le_of_ble_eq_true rfl) dX4_init_134 ⟨Nat.le_refl _, Nat.le_refl _⟩) (fun H locs hS => ?_)
  cases h
  exact kend H locs hS
def f_X4_ctor (b : Nat) : Option Mem := (f_X1_init_tail (b + 1) zμ).bind fun μb => f_X4_init_tail b (gmem b μb)
set_option maxHeartbeats 4000000 in
set_option maxRecDepth 100000 in
theorem c_X4_init (l : Launch) {D : va_G} {cI cG cL : ClassId} {A : Nat → Prop} {EN : State → Heap → Prop} (hE : EnOK EN A) {pre : va_W} {b h0 sz : Nat} (hbl : pre.length = b) (hA : ∀ q, sz ≤ q → A q) {μ1 : Mem} (h : f_X4_ctor b = some μ1) : Met l yX4_init wsX4_init (rmc 2 15 727 44) (WPreN D (tyl cI cG cL) A EN sz (pre ++ [(h0, .inr (2, [.null, .null, .null, .null, .null, .null, .int 0, .int 0, .int 0, .int 0]))]) [.ref h0]) (PN (S := Nat → Nat) D A (fun ad => ad b = h0) (fun ad => pre ++ cGarden cI ad b μ1)) 15 727 A := by
  have hiX1 : ∀ w ∈ u_ws RX1 TX1 9, w ∈ wsX4_init := by decide +kernel
  have hiX4 : ∀ w ∈ u_ws RX4 TX4 10, w ∈ wsX4_init := by decide +kernel
  have moi1 : Cond.methodLink RX4 3 Lib.objectInit ∈ wsX4_init := by decide +kernel
  have moi2 : Cond.instanceMethod Lib.objectInit ∈ wsX4_init := by decide +kernel
  have moi3 : Cond.code Lib.objectInit ⟨#[0xb1]⟩ 1 none ∈ wsX4_init := by decide +kernel
  have mcl9 : Cond.classLink RX4 9 RX1 ∈ wsX4_init := by decide +kernel
  have minX1 : Cond.instantiable RX1 9 ∈ wsX4_init := by decide +kernel
  have mitX1 : Cond.initialized RX1 ∈ wsX4_init := by decide +kernel
  have mml11 : Cond.methodLink RX4 11 yX1_init ∈ wsX4_init := by decide +kernel
  have miMX1 : Cond.instanceMethod yX1_init ∈ wsX4_init := by decide +kernel
  have mf12 : Cond.fieldLink RX4 12 (TX4 0).1 (TX4 0).2.1 (TX4 0).2.2.1 ∈ wsX4_init := by decide +kernel
  have mai : Cond.arrayClass .int ∈ wsX4_init := by decide +kernel
  have mf18 : Cond.fieldLink RX4 18 (TX4 1).1 (TX4 1).2.1 (TX4 1).2.2.1 ∈ wsX4_init := by decide +kernel
  have mf22 : Cond.fieldLink RX4 22 (TX4 2).1 (TX4 2).2.1 (TX4 2).2.2.1 ∈ wsX4_init := by decide +kernel
  have mf25 : Cond.fieldLink RX4 25 (TX4 3).1 (TX4 3).2.1 (TX4 3).2.2.1 ∈ wsX4_init := by decide +kernel
  have mf28 : Cond.fieldLink RX4 28 (TX4 4).1 (TX4 4).2.1 (TX4 4).2.2.1 ∈ wsX4_init := by decide +kernel
  have mf31 : Cond.fieldLink RX4 31 (TX4 5).1 (TX4 5).2.1 (TX4 5).2.2.1 ∈ wsX4_init := by decide +kernel
  refine met_startN (cc := cX4_init) (nL := 1) (own := RX4) hE (by decide) rfl rfl (Nat.le_of_ble_eq_true rfl) (fun p e s m args below meth c ls X hz hS hl hr hlk hin => ?_)
  have hx := X.1.1
  have hb := X.1.2.1
  have hA1 : ∀ q, s.heap.size ≤ q → A q := fun q hq => hA q (Nat.le_trans hz hq)
  replace hl : lv_has ls 1 [(0, .ref h0)] := hl
  obtain ⟨μb, hμb, h⟩ := ob h
  refine lv_aload_n hx hb dX4_init_0 rfl (lv_at hl 0 rfl) ?_
  refine r_oi X moi1 moi2 moi3 hl.1 dX4_init_1 ⟨Nat.le_of_ble_eq_true rfl, Nat.le_of_ble_eq_true rfl⟩ ?_
  refine lv_aload_n hx hb dX4_init_4 rfl (lv_at hl 0 rfl) ?_
  refine r_new X hS hA1 (T := TX1) (N := 9) (ci := 0) hiX1 tyX1 tyX1_ok mcl9 minX1 mitX1 rfl [.null, .null, .null, .null, .null, .null, .null, .null, .null] (by decide) (Nat.le_of_ble_eq_true rfl) (Nat.le_of_ble_eq_true rfl) dX4_init_5 (fun q1 H hS => ?_)
  refine lv_dup hx hb dX4_init_8 rfl ?_
  replace hS := hS.cast (w2 := (pre ++ [(h0, .inr (2, [.null, .null, .null, .null, .null, .null, .int 0, .int 0, .int 0, .int 0]))]) ++ [(q1, .inr (0, [.null, .null, .null, .null, .null, .null, .null, .null, .null]))]) (by simp)
  refine r_cN hS (r_runI (rest := [.ref q1, .ref h0]) X hS hz (c_X1_init l hE (D := D) (cI := cI) (cG := cG) (cL := cL) (pre := pre ++ [(h0, .inr (2, [.null, .null, .null, .null, .null, .null, .int 0, .int 0, .int 0, .int 0]))]) (b := b + 1) (by rw [List.length_append, hbl]; rfl) hA hμb) (cwI 0 X.1.2.2.2.2 gX4_init_X1_init rfl rfl rfl (X.1.2.2.2.2 _ mitX1) (X.1.2.2.2.2 _ mml11) (X.1.2.2.2.2 _ miMX1) rfl (by decide +kernel) ⟨Nat.le_of_ble_eq_true rfl, Nat.le_of_ble_eq_true rfl⟩) hl.1 (Nat.le_of_ble_eq_true rfl) dX4_init_9 ⟨Nat.le_of_ble_eq_true rfl, Nat.le_of_ble_eq_true rfl⟩) (fun adq1 H locs hp hS => ?_)
  replace hS := hS.cast (w2 := pre ++ (h0, .inr (2, [.null, .null, .null, .null, .null, .null, .int 0, .int 0, .int 0, .int 0])) :: cBeds cI adq1 (b + 1) μb) (by simp)
  refine r_pF X hS (T := TX4) (k := 0) rfl hiX4 tyX4 tyX4_ok nmX4 (by decide) mf12 rfl hin rfl rfl rfl (Nat.le_of_ble_eq_true rfl) dX4_init_12 (fun H locs hS => ?_)
  refine lv_aload_n hx hb dX4_init_15 rfl (lv_at hl 0 rfl) ?_
  refine lv_iconst (v := 2) hx hb dX4_init_16 (by decide) ?_
  refine r_newa X hS hA1 mai 2 (by decide) rfl (Nat.le_of_ble_eq_true rfl) (Nat.le_of_ble_eq_true rfl) (Nat.le_of_ble_eq_true rfl) dX4_init_17 (fun q2 H hS => ?_)
  refine r_pF X hS (T := TX4) (k := 1) rfl hiX4 tyX4 tyX4_ok nmX4 (by decide) mf18 rfl hin rfl rfl rfl (Nat.le_of_ble_eq_true rfl) dX4_init_19 (fun H locs hS => ?_)
  refine lv_aload_n hx hb dX4_init_22 rfl (lv_at hl 0 rfl) ?_
  refine lv_iconst (v := 2) hx hb dX4_init_23 (by decide) ?_
  refine r_newa X hS hA1 mai 2 (by decide) rfl (Nat.le_of_ble_eq_true rfl) (Nat.le_of_ble_eq_true rfl) (Nat.le_of_ble_eq_true rfl) dX4_init_24 (fun q3 H hS => ?_)
  refine r_pF X hS (T := TX4) (k := 2) rfl hiX4 tyX4 tyX4_ok nmX4 (by decide) mf22 rfl hin rfl rfl rfl (Nat.le_of_ble_eq_true rfl) dX4_init_26 (fun H locs hS => ?_)
  refine lv_aload_n hx hb dX4_init_29 rfl (lv_at hl 0 rfl) ?_
  refine lv_iconst (v := 2) hx hb dX4_init_30 (by decide) ?_
  refine r_newa X hS hA1 mai 2 (by decide) rfl (Nat.le_of_ble_eq_true rfl) (Nat.le_of_ble_eq_true rfl) (Nat.le_of_ble_eq_true rfl) dX4_init_31 (fun q4 H hS => ?_)
  refine r_pF X hS (T := TX4) (k := 3) rfl hiX4 tyX4 tyX4_ok nmX4 (by decide) mf25 rfl hin rfl rfl rfl (Nat.le_of_ble_eq_true rfl) dX4_init_33 (fun H locs hS => ?_)
  refine lv_aload_n hx hb dX4_init_36 rfl (lv_at hl 0 rfl) ?_
  refine lv_iconst (v := 4) hx hb dX4_init_37 (by decide) ?_
  refine r_newa X hS hA1 mai 4 (by decide) rfl (Nat.le_of_ble_eq_true rfl) (Nat.le_of_ble_eq_true rfl) (Nat.le_of_ble_eq_true rfl) dX4_init_38 (fun q5 H hS => ?_)
  refine r_pF X hS (T := TX4) (k := 4) rfl hiX4 tyX4 tyX4_ok nmX4 (by decide) mf28 rfl hin rfl rfl rfl (Nat.le_of_ble_eq_true rfl) dX4_init_40 (fun H locs hS => ?_)
  refine lv_aload_n hx hb dX4_init_43 rfl (lv_at hl 0 rfl) ?_
  refine lv_iconst (v := 4) hx hb dX4_init_44 (by decide) ?_
  refine r_newa X hS hA1 mai 4 (by decide) rfl (Nat.le_of_ble_eq_true rfl) (Nat.le_of_ble_eq_true rfl) (Nat.le_of_ble_eq_true rfl) dX4_init_45 (fun q6 H hS => ?_)
  refine r_pF X hS (T := TX4) (k := 5) rfl hiX4 tyX4 tyX4_ok nmX4 (by decide) mf31 rfl hin rfl rfl rfl (Nat.le_of_ble_eq_true rfl) dX4_init_47 (fun H locs hS => ?_)
  replace hS := hS.cast (w2 := pre ++ cGarden cI (gad b h0 adq1 [q2, q3, q4, q5, q6]) b (gmem b μb)) (by rw [cGarden_mk, hp]; simp)
  refine k_X4_init_tail l hE (w := fun μ => pre ++ (cGarden cI (gad b h0 adq1 [q2, q3, q4, q5, q6]) b μ ++ [])) (garden_at (Sub.self hbl (fun _ => rfl))) h X (hS.cast (by rw [List.append_nil])) (by rw [gad_0]; exact hl) (fun H locs hS => ?_)
  exact r_retN X (gad b h0 adq1 [q2, q3, q4, q5, q6]) gad_0 (hS.cast (by rw [List.append_nil])) hr hlk dX4_init_137
def hμ (gm : Nat → Mem) (b : Nat) : Mem := pw (b + 2) zμ (pw (b + 18) (gm (b + 2)) (pw (b + 34) (gm (b + 18)) (pw (b + 50) (gm (b + 34)) (gm (b + 50)))))
set_option maxHeartbeats 4000000 in
set_option maxRecDepth 100000 in
theorem c_X5_init (l : Launch) {D : va_G} {cI cG cL : ClassId} {A : Nat → Prop} {EN : State → Heap → Prop} (hE : EnOK EN A) {pre : va_W} {b h0 sz : Nat} (hbl : pre.length = b) (hA : ∀ q, sz ≤ q → A q) (hao : ∀ s H, EN s H → va_AO "PageGarden$Garden" s) {gm : Nat → Mem} (hG : ∀ b, f_X4_ctor b = some (gm b)) : Met l yX5_init wsX5_init (rmc 3 65 2952 64) (WPreN D (tyl cI cG cL) A EN sz (pre ++ [(h0, .inr (3, [.null, .int 0, .int 0]))]) [.ref h0]) (PN (S := Nat → Nat) D A (fun ad => ad b = h0) (fun ad => pre ++ cHist cI cG ad b (hμ gm b))) 65 2952 A := by
  have hiX4 : ∀ w ∈ u_ws RX4 TX4 10, w ∈ wsX5_init := by decide +kernel
  have hiX5 : ∀ w ∈ u_ws RX5 TX5 3, w ∈ wsX5_init := by decide +kernel
  have moi1 : Cond.methodLink RX5 3 Lib.objectInit ∈ wsX5_init := by decide +kernel
  have moi2 : Cond.instanceMethod Lib.objectInit ∈ wsX5_init := by decide +kernel
  have moi3 : Cond.code Lib.objectInit ⟨#[0xb1]⟩ 1 none ∈ wsX5_init := by decide +kernel
  have mcl9 : Cond.classLink RX5 9 "PageGarden$Garden" ∈ wsX5_init := by decide +kernel
  have mf11 : Cond.fieldLink RX5 11 (TX5 0).1 (TX5 0).2.1 (TX5 0).2.2.1 ∈ wsX5_init := by decide +kernel
  have mf17 : Cond.fieldLink RX5 17 (TX5 1).1 (TX5 1).2.1 (TX5 1).2.2.1 ∈ wsX5_init := by decide +kernel
  have mf21 : Cond.fieldLink RX5 21 (TX5 2).1 (TX5 2).2.1 (TX5 2).2.2.1 ∈ wsX5_init := by decide +kernel
  have minX4 : Cond.instantiable RX4 10 ∈ wsX5_init := by decide +kernel
  have mitX4 : Cond.initialized RX4 ∈ wsX5_init := by decide +kernel
  have mml24 : Cond.methodLink RX5 24 yX4_init ∈ wsX5_init := by decide +kernel
  have miMX4 : Cond.instanceMethod yX4_init ∈ wsX5_init := by decide +kernel
  refine met_startN (cc := cX5_init) (nL := 2) (own := RX5) hE (by decide) rfl rfl (Nat.le_of_ble_eq_true rfl) (fun p e s m args below meth c ls X hz hS hl hr hlk hin => ?_)
  have hx := X.1.1
  have hb := X.1.2.1
  have hA1 : ∀ q, s.heap.size ≤ q → A q := fun q hq => hA q (Nat.le_trans hz hq)
  replace hl : lv_has ls 2 [(0, .ref h0)] := hl
  refine lv_aload_n hx hb dX5_init_0 rfl (lv_at hl 0 rfl) ?_
  refine r_oi X moi1 moi2 moi3 hl.1 dX5_init_1 ⟨Nat.le_of_ble_eq_true rfl, Nat.le_of_ble_eq_true rfl⟩ ?_
  refine lv_aload_n hx hb dX5_init_4 rfl (lv_at hl 0 rfl) ?_
  refine lv_iconst (v := 4) hx hb dX5_init_5 (by decide) ?_
  refine r_newg X hS hA1 mcl9 (hao _ _ X.2.2.2) 4 (by decide) rfl (Nat.le_of_ble_eq_true rfl) (Nat.le_of_ble_eq_true rfl) (Nat.le_of_ble_eq_true rfl) dX5_init_6 (fun q1 H hS => ?_)
  refine r_pF X hS (T := TX5) (k := 0) rfl hiX5 tyX5 tyX5_ok nmX5 (by decide) mf11 rfl hin rfl rfl rfl (Nat.le_of_ble_eq_true rfl) dX5_init_9 (fun H locs hS => ?_)
  refine lv_aload_n hx hb dX5_init_12 rfl (lv_at hl 0 rfl) ?_
  refine lv_iconst (v := 0) hx hb dX5_init_13 (by decide) ?_
  refine r_pL X hS (T := TX5) (k := 1) rfl hiX5 tyX5 tyX5_ok nmX5 (by decide) mf17 rfl rfl rfl (Nat.le_of_ble_eq_true rfl) dX5_init_14 (fun H locs hS => ?_)
  refine lv_aload_n hx hb dX5_init_17 rfl (lv_at hl 0 rfl) ?_
  refine lv_iconst (v := 0) hx hb dX5_init_18 (by decide) ?_
  refine r_pL X hS (T := TX5) (k := 2) rfl hiX5 tyX5 tyX5_ok nmX5 (by decide) mf21 rfl rfl rfl (Nat.le_of_ble_eq_true rfl) dX5_init_19 (fun H locs hS => ?_)
  refine lv_iconst (v := 0) hx hb dX5_init_22 (by decide) ?_
  refine lv_istore_n (lv' := [(1, .int 0), (0, .ref h0)]) hx hb dX5_init_23 rfl hl (by decide) rfl (fun ls hl => ?_)
  refine lv_iload_n hx hb dX5_init_24 rfl (lv_at hl 0 rfl) ?_
  refine lv_iconst (v := 4) hx hb dX5_init_25 (by decide) ?_
  refine lv_icmp_ge (tgt := 48) hx hb dX5_init_26 (by decide) (fun cc => absurd cc (by decide)) (fun _ => ?_)
  refine lv_aload_n hx hb dX5_init_29 rfl (lv_at hl 1 rfl) ?_
  refine r_get X hS (T := TX5) (k := 0) gp0 rfl hiX5 (by decide) mf11 rfl dX5_init_30 ?_
  refine lv_iload_n hx hb dX5_init_33 rfl (lv_at hl 0 rfl) ?_
  refine r_new X hS hA1 (T := TX4) (N := 10) (ci := 2) hiX4 tyX4 tyX4_ok mcl9 minX4 mitX4 rfl [.null, .null, .null, .null, .null, .null, .int 0, .int 0, .int 0, .int 0] (by decide) (Nat.le_of_ble_eq_true rfl) (Nat.le_of_ble_eq_true rfl) dX5_init_34 (fun q2 H hS => ?_)
  refine lv_dup hx hb dX5_init_37 rfl ?_
  replace hS := hS.cast (w2 := (pre ++ (h0, .inr (3, [.ref q1, .int 0, .int 0])) :: (q1, .inl (cG, 4, .inr (.inr (.inr (.inr (fun _ => none)))))) :: []) ++ [(q2, .inr (2, [.null, .null, .null, .null, .null, .null, .int 0, .int 0, .int 0, .int 0]))]) (by simp)
  refine r_cN hS (r_runI (rest := [.ref q2, .int 0, .ref q1]) X hS hz (c_X4_init l hE (D := D) (cI := cI) (cG := cG) (cL := cL) (pre := (pre ++ (h0, .inr (3, [.ref q1, .int 0, .int 0])) :: (q1, .inl (cG, 4, .inr (.inr (.inr (.inr (fun _ => none)))))) :: [])) (b := b + 2) (by rw [List.length_append, hbl]; rfl) hA (hG (b + 2))) (cwI 0 X.1.2.2.2.2 gX5_init_X4_init rfl rfl rfl (X.1.2.2.2.2 _ mitX4) (X.1.2.2.2.2 _ mml24) (X.1.2.2.2.2 _ miMX4) rfl (by decide +kernel) ⟨Nat.le_of_ble_eq_true rfl, Nat.le_of_ble_eq_true rfl⟩) hl.1 (Nat.le_of_ble_eq_true rfl) dX5_init_38 ⟨Nat.le_of_ble_eq_true rfl, Nat.le_of_ble_eq_true rfl⟩) (fun adq2 H locs hp hS => ?_)
  replace hS := hS.cast (w2 := pre ++ (h0, .inr (3, [.ref q1, .int 0, .int 0])) :: (q1, .inl (cG, 4, .inr (.inr (.inr (.inr (fun _ => none)))))) :: cGarden cI adq2 (b + 2) (gm (b + 2))) (by simp)
  have hp0 := hp
  refine r_ast X hS (k := 0) (v := q2) (by rw [← hp]; rfl) (by unfold vp_in; decide) dX5_init_41 (fun H locs hS => ?_)
  refine lv_iinc (v := 1) (lv' := [(1, .int 1), (0, .ref h0)]) hx hb dX5_init_42 hl (k := 0) rfl rfl (by decide) rfl (fun ls hl => ?_)
  refine lv_goto (tgt := 24) hx hb dX5_init_45 (by decide) ?_
  refine lv_iload_n hx hb dX5_init_24 rfl (lv_at hl 0 rfl) ?_
  refine lv_iconst (v := 4) hx hb dX5_init_25 (by decide) ?_
  refine lv_icmp_ge (tgt := 48) hx hb dX5_init_26 (by decide) (fun cc => absurd cc (by decide)) (fun _ => ?_)
  refine lv_aload_n hx hb dX5_init_29 rfl (lv_at hl 1 rfl) ?_
  refine r_get X hS (T := TX5) (k := 0) gp0 rfl hiX5 (by decide) mf11 rfl dX5_init_30 ?_
  refine lv_iload_n hx hb dX5_init_33 rfl (lv_at hl 0 rfl) ?_
  refine r_new X hS hA1 (T := TX4) (N := 10) (ci := 2) hiX4 tyX4 tyX4_ok mcl9 minX4 mitX4 rfl [.null, .null, .null, .null, .null, .null, .int 0, .int 0, .int 0, .int 0] (by decide) (Nat.le_of_ble_eq_true rfl) (Nat.le_of_ble_eq_true rfl) dX5_init_34 (fun q3 H hS => ?_)
  refine lv_dup hx hb dX5_init_37 rfl ?_
  replace hS := hS.cast (w2 := (pre ++ (h0, .inr (3, [.ref q1, .int 0, .int 0])) :: (q1, .inl (cG, 4, .inr (.inr (.inr (.inr (va_up (fun _ => none) (Int32.toNatClampNeg 0) (some q2))))))) :: cGarden cI adq2 (b + 2) (gm (b + 2))) ++ [(q3, .inr (2, [.null, .null, .null, .null, .null, .null, .int 0, .int 0, .int 0, .int 0]))]) (by simp)
  refine r_cN hS (r_runI (rest := [.ref q3, .int 1, .ref q1]) X hS hz (c_X4_init l hE (D := D) (cI := cI) (cG := cG) (cL := cL) (pre := (pre ++ (h0, .inr (3, [.ref q1, .int 0, .int 0])) :: (q1, .inl (cG, 4, .inr (.inr (.inr (.inr (va_up (fun _ => none) (Int32.toNatClampNeg 0) (some q2))))))) :: cGarden cI adq2 (b + 2) (gm (b + 2)))) (b := b + 18) (by rw [List.length_append, hbl]; rfl) hA (hG (b + 18))) (cwI 0 X.1.2.2.2.2 gX5_init_X4_init rfl rfl rfl (X.1.2.2.2.2 _ mitX4) (X.1.2.2.2.2 _ mml24) (X.1.2.2.2.2 _ miMX4) rfl (by decide +kernel) ⟨Nat.le_of_ble_eq_true rfl, Nat.le_of_ble_eq_true rfl⟩) hl.1 (Nat.le_of_ble_eq_true rfl) dX5_init_38 ⟨Nat.le_of_ble_eq_true rfl, Nat.le_of_ble_eq_true rfl⟩) (fun adq3 H locs hp hS => ?_)
  replace hS := hS.cast (w2 := pre ++ (h0, .inr (3, [.ref q1, .int 0, .int 0])) :: (q1, .inl (cG, 4, .inr (.inr (.inr (.inr (va_up (fun _ => none) (Int32.toNatClampNeg 0) (some q2))))))) :: (cGarden cI adq2 (b + 2) (gm (b + 2)) ++ cGarden cI adq3 (b + 18) (gm (b + 18)))) (by simp)
  have hp1 := hp
  refine r_ast X hS (k := 16) (v := q3) (by rw [← hp]; rfl) (by unfold vp_in; decide) dX5_init_41 (fun H locs hS => ?_)
  refine lv_iinc (v := 2) (lv' := [(1, .int 2), (0, .ref h0)]) hx hb dX5_init_42 hl (k := 0) rfl rfl (by decide) rfl (fun ls hl => ?_)
  refine lv_goto (tgt := 24) hx hb dX5_init_45 (by decide) ?_
  refine lv_iload_n hx hb dX5_init_24 rfl (lv_at hl 0 rfl) ?_
  refine lv_iconst (v := 4) hx hb dX5_init_25 (by decide) ?_
  refine lv_icmp_ge (tgt := 48) hx hb dX5_init_26 (by decide) (fun cc => absurd cc (by decide)) (fun _ => ?_)
  refine lv_aload_n hx hb dX5_init_29 rfl (lv_at hl 1 rfl) ?_
  refine r_get X hS (T := TX5) (k := 0) gp0 rfl hiX5 (by decide) mf11 rfl dX5_init_30 ?_
  refine lv_iload_n hx hb dX5_init_33 rfl (lv_at hl 0 rfl) ?_
  refine r_new X hS hA1 (T := TX4) (N := 10) (ci := 2) hiX4 tyX4 tyX4_ok mcl9 minX4 mitX4 rfl [.null, .null, .null, .null, .null, .null, .int 0, .int 0, .int 0, .int 0] (by decide) (Nat.le_of_ble_eq_true rfl) (Nat.le_of_ble_eq_true rfl) dX5_init_34 (fun q4 H hS => ?_)
  refine lv_dup hx hb dX5_init_37 rfl ?_
  replace hS := hS.cast (w2 := (pre ++ (h0, .inr (3, [.ref q1, .int 0, .int 0])) :: (q1, .inl (cG, 4, .inr (.inr (.inr (.inr (va_up (va_up (fun _ => none) (Int32.toNatClampNeg 0) (some q2)) (Int32.toNatClampNeg 1) (some q3))))))) :: (cGarden cI adq2 (b + 2) (gm (b + 2)) ++ cGarden cI adq3 (b + 18) (gm (b + 18)))) ++ [(q4, .inr (2, [.null, .null, .null, .null, .null, .null, .int 0, .int 0, .int 0, .int 0]))]) (by simp)
  refine r_cN hS (r_runI (rest := [.ref q4, .int 2, .ref q1]) X hS hz (c_X4_init l hE (D := D) (cI := cI) (cG := cG) (cL := cL) (pre := (pre ++ (h0, .inr (3, [.ref q1, .int 0, .int 0])) :: (q1, .inl (cG, 4, .inr (.inr (.inr (.inr (va_up (va_up (fun _ => none) (Int32.toNatClampNeg 0) (some q2)) (Int32.toNatClampNeg 1) (some q3))))))) :: (cGarden cI adq2 (b + 2) (gm (b + 2)) ++ cGarden cI adq3 (b + 18) (gm (b + 18))))) (b := b + 34) (by rw [List.length_append, hbl]; rfl) hA (hG (b + 34))) (cwI 0 X.1.2.2.2.2 gX5_init_X4_init rfl rfl rfl (X.1.2.2.2.2 _ mitX4) (X.1.2.2.2.2 _ mml24) (X.1.2.2.2.2 _ miMX4) rfl (by decide +kernel) ⟨Nat.le_of_ble_eq_true rfl, Nat.le_of_ble_eq_true rfl⟩) hl.1 (Nat.le_of_ble_eq_true rfl) dX5_init_38 ⟨Nat.le_of_ble_eq_true rfl, Nat.le_of_ble_eq_true rfl⟩) (fun adq4 H locs hp hS => ?_)
  replace hS := hS.cast (w2 := pre ++ (h0, .inr (3, [.ref q1, .int 0, .int 0])) :: (q1, .inl (cG, 4, .inr (.inr (.inr (.inr (va_up (va_up (fun _ => none) (Int32.toNatClampNeg 0) (some q2)) (Int32.toNatClampNeg 1) (some q3))))))) :: ((cGarden cI adq2 (b + 2) (gm (b + 2)) ++ cGarden cI adq3 (b + 18) (gm (b + 18))) ++ cGarden cI adq4 (b + 34) (gm (b + 34)))) (by simp)
  have hp2 := hp
  refine r_ast X hS (k := 32) (v := q4) (by rw [← hp]; rfl) (by unfold vp_in; decide) dX5_init_41 (fun H locs hS => ?_)
  refine lv_iinc (v := 3) (lv' := [(1, .int 3), (0, .ref h0)]) hx hb dX5_init_42 hl (k := 0) rfl rfl (by decide) rfl (fun ls hl => ?_)
  refine lv_goto (tgt := 24) hx hb dX5_init_45 (by decide) ?_
  refine lv_iload_n hx hb dX5_init_24 rfl (lv_at hl 0 rfl) ?_
  refine lv_iconst (v := 4) hx hb dX5_init_25 (by decide) ?_
  refine lv_icmp_ge (tgt := 48) hx hb dX5_init_26 (by decide) (fun cc => absurd cc (by decide)) (fun _ => ?_)
  refine lv_aload_n hx hb dX5_init_29 rfl (lv_at hl 1 rfl) ?_
  refine r_get X hS (T := TX5) (k := 0) gp0 rfl hiX5 (by decide) mf11 rfl dX5_init_30 ?_
  refine lv_iload_n hx hb dX5_init_33 rfl (lv_at hl 0 rfl) ?_
  refine r_new X hS hA1 (T := TX4) (N := 10) (ci := 2) hiX4 tyX4 tyX4_ok mcl9 minX4 mitX4 rfl [.null, .null, .null, .null, .null, .null, .int 0, .int 0, .int 0, .int 0] (by decide) (Nat.le_of_ble_eq_true rfl) (Nat.le_of_ble_eq_true rfl) dX5_init_34 (fun q5 H hS => ?_)
  refine lv_dup hx hb dX5_init_37 rfl ?_
  replace hS := hS.cast (w2 := (pre ++ (h0, .inr (3, [.ref q1, .int 0, .int 0])) :: (q1, .inl (cG, 4, .inr (.inr (.inr (.inr (va_up (va_up (va_up (fun _ => none) (Int32.toNatClampNeg 0) (some q2)) (Int32.toNatClampNeg 1) (some q3)) (Int32.toNatClampNeg 2) (some q4))))))) :: ((cGarden cI adq2 (b + 2) (gm (b + 2)) ++ cGarden cI adq3 (b + 18) (gm (b + 18))) ++ cGarden cI adq4 (b + 34) (gm (b + 34)))) ++ [(q5, .inr (2, [.null, .null, .null, .null, .null, .null, .int 0, .int 0, .int 0, .int 0]))]) (by simp)
  refine r_cN hS (r_runI (rest := [.ref q5, .int 3, .ref q1]) X hS hz (c_X4_init l hE (D := D) (cI := cI) (cG := cG) (cL := cL) (pre := (pre ++ (h0, .inr (3, [.ref q1, .int 0, .int 0])) :: (q1, .inl (cG, 4, .inr (.inr (.inr (.inr (va_up (va_up (va_up (fun _ => none) (Int32.toNatClampNeg 0) (some q2)) (Int32.toNatClampNeg 1) (some q3)) (Int32.toNatClampNeg 2) (some q4))))))) :: ((cGarden cI adq2 (b + 2) (gm (b + 2)) ++ cGarden cI adq3 (b + 18) (gm (b + 18))) ++ cGarden cI adq4 (b + 34) (gm (b + 34))))) (b := b + 50) (by rw [List.length_append, hbl]; rfl) hA (hG (b + 50))) (cwI 0 X.1.2.2.2.2 gX5_init_X4_init rfl rfl rfl (X.1.2.2.2.2 _ mitX4) (X.1.2.2.2.2 _ mml24) (X.1.2.2.2.2 _ miMX4) rfl (by decide +kernel) ⟨Nat.le_of_ble_eq_true rfl, Nat.le_of_ble_eq_true rfl⟩) hl.1 (Nat.le_of_ble_eq_true rfl) dX5_init_38 ⟨Nat.le_of_ble_eq_true rfl, Nat.le_of_ble_eq_true rfl⟩) (fun adq5 H locs hp hS => ?_)
  replace hS := hS.cast (w2 := pre ++ (h0, .inr (3, [.ref q1, .int 0, .int 0])) :: (q1, .inl (cG, 4, .inr (.inr (.inr (.inr (va_up (va_up (va_up (fun _ => none) (Int32.toNatClampNeg 0) (some q2)) (Int32.toNatClampNeg 1) (some q3)) (Int32.toNatClampNeg 2) (some q4))))))) :: (((cGarden cI adq2 (b + 2) (gm (b + 2)) ++ cGarden cI adq3 (b + 18) (gm (b + 18))) ++ cGarden cI adq4 (b + 34) (gm (b + 34))) ++ cGarden cI adq5 (b + 50) (gm (b + 50)))) (by simp)
  have hp3 := hp
  refine r_ast X hS (k := 48) (v := q5) (by rw [← hp]; rfl) (by unfold vp_in; decide) dX5_init_41 (fun H locs hS => ?_)
  refine lv_iinc (v := 4) (lv' := [(1, .int 4), (0, .ref h0)]) hx hb dX5_init_42 hl (k := 0) rfl rfl (by decide) rfl (fun ls hl => ?_)
  refine lv_goto (tgt := 24) hx hb dX5_init_45 (by decide) ?_
  refine lv_iload_n hx hb dX5_init_24 rfl (lv_at hl 0 rfl) ?_
  refine lv_iconst (v := 4) hx hb dX5_init_25 (by decide) ?_
  refine lv_icmp_ge (tgt := 48) hx hb dX5_init_26 (by decide) (fun _ => ?_) (fun cc => absurd (by decide) cc)
  generalize hAD : (pw (b + 2) (adl b [h0, q1]) (pw (b + 18) adq2 (pw (b + 34) adq3 (pw (b + 50) adq4 adq5)))) = AD
  have g0 : AD b = h0 := by rw [← hAD]; exact (pw_l (by omega)).trans adl_0
  have g1 : AD (b + 1) = q1 := by rw [← hAD]; exact (pw_l (by omega)).trans adl_i
  have k0 : ∀ k, b + 2 ≤ k → k < b + 2 + 16 → AD k = adq2 k ∧ hμ gm b k = gm (b + 2) k := fun k h1 h2 => by rw [← hAD]; exact ⟨(pw_r h1).trans (pw_l (by omega)), (pw_r h1).trans (pw_l (by omega))⟩
  have k1 : ∀ k, b + 18 ≤ k → k < b + 18 + 16 → AD k = adq3 k ∧ hμ gm b k = gm (b + 18) k := fun k h1 h2 => by rw [← hAD]; exact ⟨(pw_r (by omega)).trans ((pw_r h1).trans (pw_l (by omega))), (pw_r (by omega)).trans ((pw_r h1).trans (pw_l (by omega)))⟩
  have k2 : ∀ k, b + 34 ≤ k → k < b + 34 + 16 → AD k = adq4 k ∧ hμ gm b k = gm (b + 34) k := fun k h1 h2 => by rw [← hAD]; exact ⟨(pw_r (by omega)).trans ((pw_r (by omega)).trans ((pw_r h1).trans (pw_l (by omega)))), (pw_r (by omega)).trans ((pw_r (by omega)).trans ((pw_r h1).trans (pw_l (by omega))))⟩
  have k3 : ∀ k, b + 50 ≤ k → k < b + 50 + 16 → AD k = adq5 k ∧ hμ gm b k = gm (b + 50) k := fun k h1 h2 => by rw [← hAD]; exact ⟨(pw_r (by omega)).trans ((pw_r (by omega)).trans ((pw_r (by omega)).trans (pw_r h1))), (pw_r (by omega)).trans ((pw_r (by omega)).trans ((pw_r (by omega)).trans (pw_r h1)))⟩
  have z0 : hμ gm b b = fun _ => 0 := pw_l (by omega)
  have e0 := (k0 (b + 2) (Nat.le_refl _) (by omega)).1.trans hp0
  have e1 := (k1 (b + 18) (Nat.le_refl _) (by omega)).1.trans hp1
  have e2 := (k2 (b + 34) (Nat.le_refl _) (by omega)).1.trans hp2
  have e3 := (k3 (b + 50) (Nat.le_refl _) (by omega)).1.trans hp3
  replace hS := hS.cast (w2 := (pre ++ [(h0, .inr (3, [.ref q1, .int 0, .int 0]))]) ++ (q1, .inl (cG, 4, .inr (.inr (.inr (.inr (va_up (va_up (va_up (va_up (fun _ => none) (Int32.toNatClampNeg 0) (some q2)) (Int32.toNatClampNeg 1) (some q3)) (Int32.toNatClampNeg 2) (some q4)) (Int32.toNatClampNeg 3) (some q5))))))) :: (((cGarden cI adq2 (b + 2) (gm (b + 2)) ++ cGarden cI adq3 (b + 18) (gm (b + 18))) ++ cGarden cI adq4 (b + 34) (gm (b + 34))) ++ cGarden cI adq5 (b + 50) (gm (b + 50)))) (by simp)
  replace hS := hS.refs (g := histRow AD b) (fun j hj => by
    have hc : j = 0 ∨ j = 1 ∨ j = 2 ∨ j = 3 := by omega
    rcases hc with rfl | rfl | rfl | rfl
    · exact congrArg some e0.symm
    · exact congrArg some e1.symm
    · exact congrArg some e2.symm
    · exact congrArg some e3.symm)
  replace hS := hS.cast (w2 := pre ++ cHist cI cG AD b (hμ gm b)) (by unfold cHist fsHist; rw [cGarden_cg k0, cGarden_cg k1, cGarden_cg k2, cGarden_cg k3, g0, g1, z0]; simp)
  exact r_retN X AD g0 hS hr hlk dX5_init_48
def pμ (gm : Nat → Mem) (b : Nat) : Mem := pw (b + 17) (gm (b + 1)) (pw (b + 83) (hμ gm (b + 17)) (tμ (b + 83)))
set_option maxHeartbeats 4000000 in
set_option maxRecDepth 100000 in
theorem c_X6_init (l : Launch) {D : va_G} {cI cG cL : ClassId} {A : Nat → Prop} {EN : State → Heap → Prop} (hE : EnOK EN A) {pre : va_W} {b h0 sz : Nat} (hbl : pre.length = b) (hA : ∀ q, sz ≤ q → A q) (hao : ∀ s H, EN s H → va_AO "PageGarden$Garden" s) {adE : Nat → Nat} {gm : Nat → Mem} (hG : ∀ b, f_X4_ctor b = some (gm b)) : Met l yX6_init wsX6_init (rmc 4 84 3849 85) (WPreN D (tyl cI cG cL) A EN sz (pre ++ [(h0, .inr (4, [.null, .null, .null]))]) [.ref h0]) (PN (S := Nat → Nat) D A (fun ad => ad b = h0) (fun ad => pre ++ cPG cI cG adE ad b (pμ gm b))) 84 3849 A := by
  have hiX3 : ∀ w ∈ u_ws RX3 TX3 7, w ∈ wsX6_init := by decide +kernel
  have hiX4 : ∀ w ∈ u_ws RX4 TX4 10, w ∈ wsX6_init := by decide +kernel
  have hiX5 : ∀ w ∈ u_ws RX5 TX5 3, w ∈ wsX6_init := by decide +kernel
  have hiX6 : ∀ w ∈ u_ws RX6 TX6 3, w ∈ wsX6_init := by decide +kernel
  have moi1 : Cond.methodLink RX6 3 Lib.objectInit ∈ wsX6_init := by decide +kernel
  have moi2 : Cond.instanceMethod Lib.objectInit ∈ wsX6_init := by decide +kernel
  have moi3 : Cond.code Lib.objectInit ⟨#[0xb1]⟩ 1 none ∈ wsX6_init := by decide +kernel
  have mcl9 : Cond.classLink RX6 9 RX4 ∈ wsX6_init := by decide +kernel
  have minX4 : Cond.instantiable RX4 10 ∈ wsX6_init := by decide +kernel
  have mitX4 : Cond.initialized RX4 ∈ wsX6_init := by decide +kernel
  have mml11 : Cond.methodLink RX6 11 yX4_init ∈ wsX6_init := by decide +kernel
  have miMX4 : Cond.instanceMethod yX4_init ∈ wsX6_init := by decide +kernel
  have mf12 : Cond.fieldLink RX6 12 (TX6 0).1 (TX6 0).2.1 (TX6 0).2.2.1 ∈ wsX6_init := by decide +kernel
  have mcl16 : Cond.classLink RX6 16 RX5 ∈ wsX6_init := by decide +kernel
  have minX5 : Cond.instantiable RX5 3 ∈ wsX6_init := by decide +kernel
  have mitX5 : Cond.initialized RX5 ∈ wsX6_init := by decide +kernel
  have mml18 : Cond.methodLink RX6 18 yX5_init ∈ wsX6_init := by decide +kernel
  have miMX5 : Cond.instanceMethod yX5_init ∈ wsX6_init := by decide +kernel
  have mf19 : Cond.fieldLink RX6 19 (TX6 1).1 (TX6 1).2.1 (TX6 1).2.2.1 ∈ wsX6_init := by decide +kernel
  have mcl23 : Cond.classLink RX6 23 RX3 ∈ wsX6_init := by decide +kernel
  have minX3 : Cond.instantiable RX3 7 ∈ wsX6_init := by decide +kernel
  have mitX3 : Cond.initialized RX3 ∈ wsX6_init := by decide +kernel
  have miMX3 : Cond.instanceMethod yX3_init ∈ wsX6_init := by decide +kernel
  have mf26 : Cond.fieldLink RX6 26 (TX6 2).1 (TX6 2).2.1 (TX6 2).2.2.1 ∈ wsX6_init := by decide +kernel
  refine met_startN (cc := cX6_init) (nL := 1) (own := RX6) hE (by decide) rfl rfl (Nat.le_of_ble_eq_true rfl) (fun p e s m args below meth c ls X hz hS hl hr hlk hin => ?_)
  have hx := X.1.1
  have hb := X.1.2.1
  have hA1 : ∀ q, s.heap.size ≤ q → A q := fun q hq => hA q (Nat.le_trans hz hq)
  replace hl : lv_has ls 1 [(0, .ref h0)] := hl
  refine lv_aload_n hx hb dX6_init_0 rfl (lv_at hl 0 rfl) ?_
  refine r_oi X moi1 moi2 moi3 hl.1 dX6_init_1 ⟨Nat.le_of_ble_eq_true rfl, Nat.le_of_ble_eq_true rfl⟩ ?_
  refine lv_aload_n hx hb dX6_init_4 rfl (lv_at hl 0 rfl) ?_
  refine r_new X hS hA1 (T := TX4) (N := 10) (ci := 2) hiX4 tyX4 tyX4_ok mcl9 minX4 mitX4 rfl [.null, .null, .null, .null, .null, .null, .int 0, .int 0, .int 0, .int 0] (by decide) (Nat.le_of_ble_eq_true rfl) (Nat.le_of_ble_eq_true rfl) dX6_init_5 (fun q1 H hS => ?_)
  refine lv_dup hx hb dX6_init_8 rfl ?_
  replace hS := hS.cast (w2 := (pre ++ (h0, .inr (4, [.null, .null, .null])) :: []) ++ [(q1, .inr (2, [.null, .null, .null, .null, .null, .null, .int 0, .int 0, .int 0, .int 0]))]) (by simp)
  refine r_cN hS (r_runI (rest := [.ref q1, .ref h0]) X hS hz (c_X4_init l hE (D := D) (cI := cI) (cG := cG) (cL := cL) (pre := (pre ++ (h0, .inr (4, [.null, .null, .null])) :: [])) (b := b + 1) (by rw [List.length_append, hbl]; rfl) hA (hG (b + 1))) (cwI 0 X.1.2.2.2.2 gX6_init_X4_init rfl rfl rfl (X.1.2.2.2.2 _ mitX4) (X.1.2.2.2.2 _ mml11) (X.1.2.2.2.2 _ miMX4) rfl (by decide +kernel) ⟨Nat.le_of_ble_eq_true rfl, Nat.le_of_ble_eq_true rfl⟩) hl.1 (Nat.le_of_ble_eq_true rfl) dX6_init_9 ⟨Nat.le_of_ble_eq_true rfl, Nat.le_of_ble_eq_true rfl⟩) (fun adq1 H locs hp hS => ?_)
  replace hS := hS.cast (w2 := pre ++ (h0, .inr (4, [.null, .null, .null])) :: cGarden cI adq1 (b + 1) (gm (b + 1))) (by simp)
  have hp0 := hp
  refine r_pF X hS (T := TX6) (k := 0) rfl hiX6 tyX6 tyX6_ok nmX6 (by decide) mf12 rfl hin rfl rfl rfl (Nat.le_of_ble_eq_true rfl) dX6_init_12 (fun H locs hS => ?_)
  refine lv_aload_n hx hb dX6_init_15 rfl (lv_at hl 0 rfl) ?_
  refine r_new X hS hA1 (T := TX5) (N := 3) (ci := 3) hiX5 tyX5 tyX5_ok mcl16 minX5 mitX5 rfl [.null, .int 0, .int 0] (by decide) (Nat.le_of_ble_eq_true rfl) (Nat.le_of_ble_eq_true rfl) dX6_init_16 (fun q2 H hS => ?_)
  refine lv_dup hx hb dX6_init_19 rfl ?_
  replace hS := hS.cast (w2 := (pre ++ (h0, .inr (4, [.ref q1, .null, .null])) :: cGarden cI adq1 (b + 1) (gm (b + 1))) ++ [(q2, .inr (3, [.null, .int 0, .int 0]))]) (by simp)
  refine r_cN hS (r_runI (rest := [.ref q2, .ref h0]) X hS hz (c_X5_init l hE (D := D) (cI := cI) (cG := cG) (cL := cL) (pre := (pre ++ (h0, .inr (4, [.ref q1, .null, .null])) :: cGarden cI adq1 (b + 1) (gm (b + 1)))) (b := b + 17) (by rw [List.length_append, hbl]; rfl) hA hao hG) (cwI 0 X.1.2.2.2.2 gX6_init_X5_init rfl rfl rfl (X.1.2.2.2.2 _ mitX5) (X.1.2.2.2.2 _ mml18) (X.1.2.2.2.2 _ miMX5) rfl (by decide +kernel) ⟨Nat.le_of_ble_eq_true rfl, Nat.le_of_ble_eq_true rfl⟩) hl.1 (Nat.le_of_ble_eq_true rfl) dX6_init_20 ⟨Nat.le_of_ble_eq_true rfl, Nat.le_of_ble_eq_true rfl⟩) (fun adq2 H locs hp hS => ?_)
  replace hS := hS.cast (w2 := pre ++ (h0, .inr (4, [.ref q1, .null, .null])) :: (cGarden cI adq1 (b + 1) (gm (b + 1)) ++ cHist cI cG adq2 (b + 17) (hμ gm (b + 17)))) (by simp)
  have hp1 := hp
  refine r_pF X hS (T := TX6) (k := 1) rfl hiX6 tyX6 tyX6_ok nmX6 (by decide) mf19 rfl hin rfl rfl rfl (Nat.le_of_ble_eq_true rfl) dX6_init_23 (fun H locs hS => ?_)
  refine lv_aload_n hx hb dX6_init_26 rfl (lv_at hl 0 rfl) ?_
  refine r_new X hS hA1 (T := TX3) (N := 7) (ci := 1) hiX3 tyX3 tyX3_ok mcl23 minX3 mitX3 rfl [.null, .int 0, .int 0, .int 0, .null, .int 0, .int 0] (by decide) (Nat.le_of_ble_eq_true rfl) (Nat.le_of_ble_eq_true rfl) dX6_init_27 (fun q3 H hS => ?_)
  refine lv_dup hx hb dX6_init_30 rfl ?_
  replace hS := hS.cast (w2 := (pre ++ (h0, .inr (4, [.ref q1, .ref q2, .null])) :: (cGarden cI adq1 (b + 1) (gm (b + 1)) ++ cHist cI cG adq2 (b + 17) (hμ gm (b + 17)))) ++ [(q3, .inr (1, [.null, .int 0, .int 0, .int 0, .null, .int 0, .int 0]))]) (by simp)
  refine r_cN hS (r_runIN (host := RX6) (rest := [.ref q3, .ref h0]) X hS hz (c_X3_init l hE (D := D) (cI := cI) (cG := cG) (cL := cL) (pre := (pre ++ (h0, .inr (4, [.ref q1, .ref q2, .null])) :: (cGarden cI adq1 (b + 1) (gm (b + 1)) ++ cHist cI cG adq2 (b + 17) (hμ gm (b + 17))))) (b := b + 83) (by rw [List.length_append, hbl]; rfl) hA (adE := adE)) (va_cnB 0 X.1.2.2.2.2 gX6_init_X3_init_n25 rfl rfl rfl (X.nest 11 rfl) (X.1.2.2.2.2 _ mitX3) (by decide +kernel) ⟨Nat.le_of_ble_eq_true rfl, Nat.le_of_ble_eq_true rfl⟩) rfl (X.1.2.2.2.2 _ miMX3) hl.1 (Nat.le_of_ble_eq_true rfl) dX6_init_31 ⟨Nat.le_of_ble_eq_true rfl, Nat.le_of_ble_eq_true rfl⟩) (fun adq3 H locs hp hS => ?_)
  replace hS := hS.cast (w2 := pre ++ (h0, .inr (4, [.ref q1, .ref q2, .null])) :: ((cGarden cI adq1 (b + 1) (gm (b + 1)) ++ cHist cI cG adq2 (b + 17) (hμ gm (b + 17))) ++ cText cI adE adq3 (b + 83) (tμ (b + 83)))) (by simp)
  have hp2 := hp
  refine r_pF X hS (T := TX6) (k := 2) rfl hiX6 tyX6 tyX6_ok nmX6 (by decide) mf26 rfl hin rfl rfl rfl (Nat.le_of_ble_eq_true rfl) dX6_init_34 (fun H locs hS => ?_)
  generalize hAD : (pw (b + 1) (fun _ => h0) (pw (b + 17) adq1 (pw (b + 83) adq2 adq3))) = AD
  have g0 : AD b = h0 := by rw [← hAD]; exact pw_l (by omega)
  have k0 : ∀ k, b + 1 ≤ k → k < b + 1 + 16 → AD k = adq1 k ∧ pμ gm b k = gm (b + 1) k := fun k h1 h2 => by rw [← hAD]; exact ⟨(pw_r h1).trans (pw_l (by omega)), pw_l (by omega)⟩
  have k1 : ∀ k, b + 17 ≤ k → k < b + 17 + 66 → AD k = adq2 k ∧ pμ gm b k = hμ gm (b + 17) k := fun k h1 h2 => by rw [← hAD]; exact ⟨(pw_r (by omega)).trans ((pw_r h1).trans (pw_l (by omega))), (pw_r h1).trans (pw_l (by omega))⟩
  have k2 : ∀ k, b + 83 ≤ k → k < b + 83 + 2 → AD k = adq3 k ∧ pμ gm b k = tμ (b + 83) k := fun k h1 h2 => by rw [← hAD]; exact ⟨(pw_r (by omega)).trans ((pw_r (by omega)).trans (pw_r h1)), (pw_r (by omega)).trans (pw_r h1)⟩
  have e0 := (k0 (b + 1) (Nat.le_refl _) (by omega)).1.trans hp0
  have e1 := (k1 (b + 17) (Nat.le_refl _) (by omega)).1.trans hp1
  have e2 := (k2 (b + 83) (Nat.le_refl _) (by omega)).1.trans hp2
  replace hS := hS.cast (w2 := (pre ++ (h0, .inr (4, [.ref q1, .ref q2, .ref q3])) :: (cGarden cI adq1 (b + 1) (gm (b + 1)) ++ [(adq2 (b + 17), .inr (3, fsHist adq2 (b + 17) (hμ gm (b + 17) (b + 17))))])) ++ (adq2 (b + 17 + 1), .inl (cG, 4, .inr (.inr (.inr (.inr (histRow adq2 (b + 17))))))) :: ((cGarden cI adq2 (b + 17 + 2) (hμ gm (b + 17)) ++ (cGarden cI adq2 (b + 17 + 18) (hμ gm (b + 17)) ++ (cGarden cI adq2 (b + 17 + 34) (hμ gm (b + 17)) ++ cGarden cI adq2 (b + 17 + 50) (hμ gm (b + 17))))) ++ cText cI adE adq3 (b + 83) (tμ (b + 83)))) (by unfold cHist; simp)
  replace hS := hS.refs (g := histRow AD (b + 17)) (fun j hj => congrArg some (k1 (b + 17 + 2 + 16 * j) (by omega) (by omega)).1.symm)
  replace hS := hS.cast (w2 := pre ++ cPG cI cG adE AD b (pμ gm b)) (by unfold cPG fsPG; rw [cGarden_cg k0, ← cHistF_eq, cHistF_cg k1, cText_cg k2, g0, e0, e1, e2]; unfold cHistF; simp)
  exact r_retN X AD g0 hS hr hlk dX6_init_37
end CTOR2
