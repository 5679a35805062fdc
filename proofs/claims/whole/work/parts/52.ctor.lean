section CTOR2
def f_X1_init_tail (q : Nat) (μ : Mem) : Option Mem := (f_X6_fillRow (q + 2) 32 (-1000) μ).bind (fun μ1 => (f_X6_fillRow (q + 3) 32 (-1000) μ1).bind (fun μ2 => (f_X6_fillRow (q + 4) 32 (-1000) μ2).bind (fun μ3 => (some μ3))))
set_option maxHeartbeats 4000000 in
set_option maxRecDepth 100000 in
theorem k_X1_init_tail (l : Launch) {D : va_G} {cI cG cL : ClassId} {A : Nat → Prop} {EN : State → Heap → Prop} (hE : EnOK EN A) {w : Mem → va_W} {ad : Nat → Nat} {q : Nat} {μ μ' : Mem} (hw : BedsAt cI w ad q) (h : f_X1_init_tail q μ = some μ') {p : Program} {e : Env} {s : State} {m : MethodId} {args : Array Value} {below : List Frame} {meth : Method} {c : Code} {H : Heap} {locs : List Loc} {Q : State → Prop} {ls : Array Slot} (X : Cx p s m args c cX1_init 1 wsX1_init RX1 D (tyl cI cG cL) A EN) (hS : HS D A (w μ) s.heap H locs) (hl : lv_has ls 1 [(0, .ref (ad q))]) (kend : ∀ (H : Heap) (locs : List Loc), HS D A (w μ') s.heap H locs → W p l e (headSpec wsX1_init (rmc 1 9 704 22)).room s m args below meth c H locs 9 704 Q (F0 m 109 ls [])) : W p l e (headSpec wsX1_init (rmc 1 9 704 22)).room s m args below meth c H locs 9 704 Q (F0 m 79 ls []) := by
  have hiX1 : ∀ w ∈ u_ws RX1 TX1 9, w ∈ wsX1_init := by decide +kernel
  have mf15 : Cond.fieldLink RX1 15 (TX1 1).1 (TX1 1).2.1 (TX1 1).2.2.1 ∈ wsX1_init := by decide +kernel
  have miX6 : Cond.initialized RX6 ∈ wsX1_init := by decide +kernel
  have ms39 : Cond.static yX6_fillRow ∈ wsX1_init := by decide +kernel
  have mf18 : Cond.fieldLink RX1 18 (TX1 2).1 (TX1 2).2.1 (TX1 2).2.2.1 ∈ wsX1_init := by decide +kernel
  have mf21 : Cond.fieldLink RX1 21 (TX1 3).1 (TX1 3).2.1 (TX1 3).2.2.1 ∈ wsX1_init := by decide +kernel
  have hx := X.1.1
  have hb := X.1.2.1
  unfold f_X1_init_tail at h
  refine lv_aload_n hx hb dX1_init_79 rfl (lv_at hl 0 rfl) ?_
  refine r_get X hS (T := TX1) (k := 1) (hw.1 μ).1 rfl hiX1 (by decide) mf15 rfl dX1_init_80 ?_
  refine lv_sipush (v := (-1000)) hx hb dX1_init_83 (by decide) ?_
  obtain ⟨μ1, eμ1, h⟩ := ob h
  refine r_cv hS (r_runSN (As := [.ref (ad (q + 2)), .int (-1000)]) (rest := []) (host := RX6) X hS (c_X6_fillRow l hE (w := w) (ad := ad) (μ := μ) (D := D) (cI := cI) (cG := cG) (cL := cL) hw.2.2.1 eμ1) (va_cnB 2 X.1.2.2.2.2 gX1_init_X6_fillRow_n39 rfl rfl rfl (X.nest 0 rfl) (X.1.2.2.2.2 _ miX6) (by decide +kernel) ⟨Nat.le_of_ble_eq_true rfl, Nat.le_of_ble_eq_true rfl⟩) (X.1.2.2.2.2 _ ms39) rfl hl.1 rfl (Nat.le_of_ble_eq_true rfl) dX1_init_86 ⟨Nat.le_refl _, Nat.le_refl _⟩) (fun H locs hS => ?_)
  refine lv_aload_n hx hb dX1_init_89 rfl (lv_at hl 0 rfl) ?_
  refine r_get X hS (T := TX1) (k := 2) (hw.1 μ1).1 rfl hiX1 (by decide) mf18 rfl dX1_init_90 ?_
  refine lv_sipush (v := (-1000)) hx hb dX1_init_93 (by decide) ?_
  obtain ⟨μ2, eμ2, h⟩ := ob h
  refine r_cv hS (r_runSN (As := [.ref (ad (q + 3)), .int (-1000)]) (rest := []) (host := RX6) X hS (c_X6_fillRow l hE (w := w) (ad := ad) (μ := μ1) (D := D) (cI := cI) (cG := cG) (cL := cL) hw.2.2.2.1 eμ2) (va_cnB 2 X.1.2.2.2.2 gX1_init_X6_fillRow_n39 rfl rfl rfl (X.nest 0 rfl) (X.1.2.2.2.2 _ miX6) (by decide +kernel) ⟨Nat.le_of_ble_eq_true rfl, Nat.le_of_ble_eq_true rfl⟩) (X.1.2.2.2.2 _ ms39) rfl hl.1 rfl (Nat.le_of_ble_eq_true rfl) dX1_init_96 ⟨Nat.le_refl _, Nat.le_refl _⟩) (fun H locs hS => ?_)
  refine lv_aload_n hx hb dX1_init_99 rfl (lv_at hl 0 rfl) ?_
  refine r_get X hS (T := TX1) (k := 3) (hw.1 μ2).1 rfl hiX1 (by decide) mf21 rfl dX1_init_100 ?_
  refine lv_sipush (v := (-1000)) hx hb dX1_init_103 (by decide) ?_
  obtain ⟨μ3, eμ3, h⟩ := ob h
  refine r_cv hS (r_runSN (As := [.ref (ad (q + 4)), .int (-1000)]) (rest := []) (host := RX6) X hS (c_X6_fillRow l hE (w := w) (ad := ad) (μ := μ2) (D := D) (cI := cI) (cG := cG) (cL := cL) hw.2.2.2.2.1 eμ3) (va_cnB 2 X.1.2.2.2.2 gX1_init_X6_fillRow_n39 rfl rfl rfl (X.nest 0 rfl) (X.1.2.2.2.2 _ miX6) (by decide +kernel) ⟨Nat.le_of_ble_eq_true rfl, Nat.le_of_ble_eq_true rfl⟩) (X.1.2.2.2.2 _ ms39) rfl hl.1 rfl (Nat.le_of_ble_eq_true rfl) dX1_init_106 ⟨Nat.le_refl _, Nat.le_refl _⟩) (fun H locs hS => ?_)
  cases h
  exact kend H locs hS
set_option maxHeartbeats 4000000 in
set_option maxRecDepth 100000 in
theorem c_X1_init (l : Launch) {D : va_G} {cI cG cL : ClassId} {A : Nat → Prop} {EN : State → Heap → Prop} (hE : EnOK EN A) {pre : va_W} {b h0 sz : Nat} (hbl : pre.length = b) (hA : ∀ q, sz ≤ q → A q) {μ1 : Mem} (h : f_X1_init_tail b zμ = some μ1) : Met l yX1_init wsX1_init (rmc 1 9 704 22) (WPreN D (tyl cI cG cL) A EN sz (pre ++ [(h0, .inr (0, [.null, .null, .null, .null, .null, .null, .null, .null, .null]))]) [.ref h0]) (PN (S := Nat → Nat) D A (fun ad => ad b = h0) (fun ad => pre ++ cBeds cI ad b μ1)) 9 704 A := by
  have hiX1 : ∀ w ∈ u_ws RX1 TX1 9, w ∈ wsX1_init := by decide +kernel
  have moi1 : Cond.methodLink RX1 3 Lib.objectInit ∈ wsX1_init := by decide +kernel
  have moi2 : Cond.instanceMethod Lib.objectInit ∈ wsX1_init := by decide +kernel
  have moi3 : Cond.code Lib.objectInit ⟨#[0xb1]⟩ 1 none ∈ wsX1_init := by decide +kernel
  have mai : Cond.arrayClass .int ∈ wsX1_init := by decide +kernel
  have mf9 : Cond.fieldLink RX1 9 (TX1 0).1 (TX1 0).2.1 (TX1 0).2.2.1 ∈ wsX1_init := by decide +kernel
  have mf15 : Cond.fieldLink RX1 15 (TX1 1).1 (TX1 1).2.1 (TX1 1).2.2.1 ∈ wsX1_init := by decide +kernel
  have mf18 : Cond.fieldLink RX1 18 (TX1 2).1 (TX1 2).2.1 (TX1 2).2.2.1 ∈ wsX1_init := by decide +kernel
  have mf21 : Cond.fieldLink RX1 21 (TX1 3).1 (TX1 3).2.1 (TX1 3).2.2.1 ∈ wsX1_init := by decide +kernel
  have mf24 : Cond.fieldLink RX1 24 (TX1 4).1 (TX1 4).2.1 (TX1 4).2.2.1 ∈ wsX1_init := by decide +kernel
  have mf27 : Cond.fieldLink RX1 27 (TX1 5).1 (TX1 5).2.1 (TX1 5).2.2.1 ∈ wsX1_init := by decide +kernel
  have mf30 : Cond.fieldLink RX1 30 (TX1 6).1 (TX1 6).2.1 (TX1 6).2.2.1 ∈ wsX1_init := by decide +kernel
  have mf33 : Cond.fieldLink RX1 33 (TX1 7).1 (TX1 7).2.1 (TX1 7).2.2.1 ∈ wsX1_init := by decide +kernel
  have mf36 : Cond.fieldLink RX1 36 (TX1 8).1 (TX1 8).2.1 (TX1 8).2.2.1 ∈ wsX1_init := by decide +kernel
  refine met_startN (cc := cX1_init) (nL := 1) (own := RX1) hE (by decide) rfl rfl (Nat.le_of_ble_eq_true rfl) (fun p e s m args below meth c ls X hz hS hl hr hlk hin => ?_)
  have hx := X.1.1
  have hb := X.1.2.1
  have hA1 : ∀ q, s.heap.size ≤ q → A q := fun q hq => hA q (Nat.le_trans hz hq)
  replace hl : lv_has ls 1 [(0, .ref h0)] := hl
  refine lv_aload_n hx hb dX1_init_0 rfl (lv_at hl 0 rfl) ?_
  refine r_oi X moi1 moi2 moi3 hl.1 dX1_init_1 ⟨Nat.le_of_ble_eq_true rfl, Nat.le_of_ble_eq_true rfl⟩ ?_
  refine lv_aload_n hx hb dX1_init_4 rfl (lv_at hl 0 rfl) ?_
  refine lv_bipush (v := 32) hx hb dX1_init_5 (by decide) ?_
  refine r_newa X hS hA1 mai 32 (by decide) rfl (Nat.le_of_ble_eq_true rfl) (Nat.le_of_ble_eq_true rfl) (Nat.le_of_ble_eq_true rfl) dX1_init_7 (fun q1 H hS => ?_)
  refine r_pF X hS (T := TX1) (k := 0) rfl hiX1 tyX1 tyX1_ok nmX1 (by decide) mf9 rfl hin rfl rfl rfl (Nat.le_of_ble_eq_true rfl) dX1_init_9 (fun H locs hS => ?_)
  refine lv_aload_n hx hb dX1_init_12 rfl (lv_at hl 0 rfl) ?_
  refine lv_bipush (v := 32) hx hb dX1_init_13 (by decide) ?_
  refine r_newa X hS hA1 mai 32 (by decide) rfl (Nat.le_of_ble_eq_true rfl) (Nat.le_of_ble_eq_true rfl) (Nat.le_of_ble_eq_true rfl) dX1_init_15 (fun q2 H hS => ?_)
  refine r_pF X hS (T := TX1) (k := 1) rfl hiX1 tyX1 tyX1_ok nmX1 (by decide) mf15 rfl hin rfl rfl rfl (Nat.le_of_ble_eq_true rfl) dX1_init_17 (fun H locs hS => ?_)
  refine lv_aload_n hx hb dX1_init_20 rfl (lv_at hl 0 rfl) ?_
  refine lv_bipush (v := 32) hx hb dX1_init_21 (by decide) ?_
  refine r_newa X hS hA1 mai 32 (by decide) rfl (Nat.le_of_ble_eq_true rfl) (Nat.le_of_ble_eq_true rfl) (Nat.le_of_ble_eq_true rfl) dX1_init_23 (fun q3 H hS => ?_)
  refine r_pF X hS (T := TX1) (k := 2) rfl hiX1 tyX1 tyX1_ok nmX1 (by decide) mf18 rfl hin rfl rfl rfl (Nat.le_of_ble_eq_true rfl) dX1_init_25 (fun H locs hS => ?_)
  refine lv_aload_n hx hb dX1_init_28 rfl (lv_at hl 0 rfl) ?_
  refine lv_bipush (v := 32) hx hb dX1_init_29 (by decide) ?_
  refine r_newa X hS hA1 mai 32 (by decide) rfl (Nat.le_of_ble_eq_true rfl) (Nat.le_of_ble_eq_true rfl) (Nat.le_of_ble_eq_true rfl) dX1_init_31 (fun q4 H hS => ?_)
  refine r_pF X hS (T := TX1) (k := 3) rfl hiX1 tyX1 tyX1_ok nmX1 (by decide) mf21 rfl hin rfl rfl rfl (Nat.le_of_ble_eq_true rfl) dX1_init_33 (fun H locs hS => ?_)
  refine lv_aload_n hx hb dX1_init_36 rfl (lv_at hl 0 rfl) ?_
  refine lv_bipush (v := 32) hx hb dX1_init_37 (by decide) ?_
  refine r_newa X hS hA1 mai 32 (by decide) rfl (Nat.le_of_ble_eq_true rfl) (Nat.le_of_ble_eq_true rfl) (Nat.le_of_ble_eq_true rfl) dX1_init_39 (fun q5 H hS => ?_)
  refine r_pF X hS (T := TX1) (k := 4) rfl hiX1 tyX1 tyX1_ok nmX1 (by decide) mf24 rfl hin rfl rfl rfl (Nat.le_of_ble_eq_true rfl) dX1_init_41 (fun H locs hS => ?_)
  refine lv_aload_n hx hb dX1_init_44 rfl (lv_at hl 0 rfl) ?_
  refine lv_bipush (v := 32) hx hb dX1_init_45 (by decide) ?_
  refine r_newa X hS hA1 mai 32 (by decide) rfl (Nat.le_of_ble_eq_true rfl) (Nat.le_of_ble_eq_true rfl) (Nat.le_of_ble_eq_true rfl) dX1_init_47 (fun q6 H hS => ?_)
  refine r_pF X hS (T := TX1) (k := 5) rfl hiX1 tyX1 tyX1_ok nmX1 (by decide) mf27 rfl hin rfl rfl rfl (Nat.le_of_ble_eq_true rfl) dX1_init_49 (fun H locs hS => ?_)
  refine lv_aload_n hx hb dX1_init_52 rfl (lv_at hl 0 rfl) ?_
  refine lv_sipush (v := 160) hx hb dX1_init_53 (by decide) ?_
  refine r_newa X hS hA1 mai 160 (by decide) rfl (Nat.le_of_ble_eq_true rfl) (Nat.le_of_ble_eq_true rfl) (Nat.le_of_ble_eq_true rfl) dX1_init_56 (fun q7 H hS => ?_)
  refine r_pF X hS (T := TX1) (k := 6) rfl hiX1 tyX1 tyX1_ok nmX1 (by decide) mf30 rfl hin rfl rfl rfl (Nat.le_of_ble_eq_true rfl) dX1_init_58 (fun H locs hS => ?_)
  refine lv_aload_n hx hb dX1_init_61 rfl (lv_at hl 0 rfl) ?_
  refine lv_sipush (v := 160) hx hb dX1_init_62 (by decide) ?_
  refine r_newa X hS hA1 mai 160 (by decide) rfl (Nat.le_of_ble_eq_true rfl) (Nat.le_of_ble_eq_true rfl) (Nat.le_of_ble_eq_true rfl) dX1_init_65 (fun q8 H hS => ?_)
  refine r_pF X hS (T := TX1) (k := 7) rfl hiX1 tyX1 tyX1_ok nmX1 (by decide) mf33 rfl hin rfl rfl rfl (Nat.le_of_ble_eq_true rfl) dX1_init_67 (fun H locs hS => ?_)
  refine lv_aload_n hx hb dX1_init_70 rfl (lv_at hl 0 rfl) ?_
  refine lv_sipush (v := 192) hx hb dX1_init_71 (by decide) ?_
  refine r_newa X hS hA1 mai 192 (by decide) rfl (Nat.le_of_ble_eq_true rfl) (Nat.le_of_ble_eq_true rfl) (Nat.le_of_ble_eq_true rfl) dX1_init_74 (fun q9 H hS => ?_)
  refine r_pF X hS (T := TX1) (k := 8) rfl hiX1 tyX1 tyX1_ok nmX1 (by decide) mf36 rfl hin rfl rfl rfl (Nat.le_of_ble_eq_true rfl) dX1_init_76 (fun H locs hS => ?_)
  replace hS := hS.cast (w2 := pre ++ cBeds cI (adl b [h0, q1, q2, q3, q4, q5, q6, q7, q8, q9]) b zμ) (by unfold cBeds fsBeds; simp only [adl_0, adl_i]; first | done | rfl)
  refine k_X1_init_tail l hE (w := fun μ => pre ++ (cBeds cI (adl b [h0, q1, q2, q3, q4, q5, q6, q7, q8, q9]) b μ ++ [])) (beds_at (Sub.self hbl (fun _ => rfl))) h X (hS.cast (by rw [List.append_nil])) (by rw [adl_0]; exact hl) (fun H locs hS => ?_)
  exact r_retN X (adl b [h0, q1, q2, q3, q4, q5, q6, q7, q8, q9]) adl_0 (hS.cast (by rw [List.append_nil])) hr hlk dX1_init_109
end CTOR2
