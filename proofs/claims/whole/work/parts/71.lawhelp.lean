set_option maxHeartbeats 4000000 in
set_option maxRecDepth 100000 in
theorem o_L_begin (l : Launch) {D : va_G} {cI cG cL : ClassId} {A : Nat → Prop} {EN : State → Heap → Prop} {adE : Nat → Nat} (hE : EnOK EN A) {wo : Int64 → Mem → va_W} {ad : Nat → Nat} {q qo : Nat} {o : Int64} {μ : Mem} {r : Int32} {μ' : Mem} (hw : ∀ o, PGAt cI cG adE (wo o) ad q) (ho : OutAt cL wo ad qo) (h : f_X6_begin q μ = some (r, μ')) : Met l yL_begin wsL_begin (rmk 5 106) (WPre D (tyl cI cG cL) A EN (wo o μ) [.ref (ad q), .ref (ad qo)]) (PI D A (wo r.toInt64 μ') 0) 0 0 A := by
  refine met_startW (cc := cL_begin) (nL := 3) (ret := some .int) (hh := [(0, 8, 11, 13)]) (own := RL) hE (by decide) rfl rfl (Nat.le_of_ble_eq_true rfl) (fun p e s m args below meth c ls X htab hS hl hr hlk => ?_)
  have hx := X.1.1
  have hb := X.1.2.1
  replace hl : lv_has ls 3 [(0, .ref (ad q)), (1, .ref (ad qo))] := hl
  refine lv_aload_n hx hb dL_begin_0 rfl (lv_at hl 1 rfl) ?_
  refine lv_iconst (v := 0) hx hb dL_begin_1 (by decide) ?_
  refine lv_aload_n hx hb dL_begin_2 rfl (lv_at hl 0 rfl) ?_
  refine r_ci hS (r_runV (As := []) (rest := [.int 0, .ref (ad qo)]) X hS (c_X6_begin l hE (w := wo o) (ad := ad) (μ := μ) (D := D) (cI := cI) (cG := cG) (cL := cL) (hw o) h) (cwV 0 X.1.2.2.2.2 gL_begin_X6_begin rfl rfl rfl (by decide +kernel) ⟨Nat.le_of_ble_eq_true rfl, Nat.le_of_ble_eq_true rfl⟩) (q0 := q) (ci := 4) rfl ((hw o).1 μ).1 rfl hl.1 rfl (Nat.le_of_ble_eq_true rfl) dL_begin_3 ⟨Nat.zero_le _, Nat.zero_le _⟩) (fun H locs hS => ?_)
  refine lv_i2l (v := r.toInt64) hx hb dL_begin_6 rfl ?_
  refine r_last X hS ho dL_begin_7 (fun H locs hS => ?_)
  refine lv_goto (tgt := 14) hx hb dL_begin_8 (by decide) ?_
  refine lv_iconst (v := 0) hx hb dL_begin_14 (by decide) ?_
  exact r_iretN X hS hr hlk dL_begin_15
set_option maxHeartbeats 4000000 in
set_option maxRecDepth 100000 in
theorem x_L_begin_3 (l : Launch) {D : va_G} {cI cG cL : ClassId} {A : Nat → Prop} {tC tS : Nat} {adE adK adV : Nat → Nat} (hE : EnOK (ENV tC tS adE adK adV A) A) {wo : Int64 → Mem → va_W} {ad : Nat → Nat} {q qo : Nat} {o : Int64} {μ : Mem} (hw : ∀ o, PGAt cI cG adE (wo o) ad q) (ho : OutAt cL wo ad qo) (hst : l.stackTraces = false) (h : f_X6_begin_t q μ = some 3) : Met l yL_begin wsL_begin (rmx 8 122) (WPre D (tyl cI cG cL) A (ENV tC tS adE adK adV A) (wo o μ) [.ref (ad q), .ref (ad qo)]) (PI D A (wo o μ) 1) 1 6 A := by
  refine met_startW (cc := cL_begin) (nL := 3) (ret := some .int) (hh := [(0, 8, 11, 13)]) (own := RL) hE (by decide) rfl rfl (Nat.le_of_ble_eq_true rfl) (fun p e s m args below meth c ls X htab hS hl hr hlk => ?_)
  have hx := X.1.1
  have hb := X.1.2.1
  replace hl : lv_has ls 3 [(0, .ref (ad q)), (1, .ref (ad qo))] := hl
  have mk0 : Cond.classLink RL 13 xIS ∈ wsL_begin := by decide +kernel
  refine lv_aload_n hx hb dL_begin_0 rfl (lv_at hl 1 rfl) ?_
  refine lv_iconst (v := 0) hx hb dL_begin_1 (by decide) ?_
  refine lv_aload_n hx hb dL_begin_2 rfl (lv_at hl 0 rfl) ?_
  refine r_thr (r := 3) (As := []) (rest := [.int 0, .ref (ad qo)]) X hS (t_X6_begin l hE (w := wo o) (ad := ad) (μ := μ) (D := D) (cI := cI) (cG := cG) (cL := cL) (hw o) hst h) (cwV 0 X.1.2.2.2.2 gL_begin_X6_begin rfl rfl rfl (by decide +kernel) ⟨Nat.le_of_ble_eq_true rfl, Nat.le_of_ble_eq_true rfl⟩) (q0 := q) (ci := 4) rfl ((hw o).1 μ).1 rfl hl.1 rfl (Nat.le_of_ble_eq_true rfl) dL_begin_3 ⟨Nat.le_of_ble_eq_true rfl, Nat.le_of_ble_eq_true rfl⟩ [] ⟨0, 8, 11, 13⟩ [] htab (fun _ h => absurd h List.not_mem_nil) rfl (by decide) (X.1.2.2.2.2 _ mk0) (va_Nw.use rfl (X.env.2.1 (.castable xIS xIS) (List.mem_of_getElem? (i := 2) rfl))) (fun H locs q9 hS => ?_)
  refine lv_astore_n (lv' := [(2, .ref q9), (0, .ref (ad q)), (1, .ref (ad qo))]) hx hb dL_begin_11 rfl hl (by decide) rfl (fun ls hl => ?_)
  refine lv_iconst (v := 1) hx hb dL_begin_12 (by decide) ?_
  exact r_iretN X hS hr hlk dL_begin_13
set_option maxHeartbeats 4000000 in
set_option maxRecDepth 100000 in
theorem o_L_put (l : Launch) {D : va_G} {cI cG cL : ClassId} {A : Nat → Prop} {EN : State → Heap → Prop} {adE : Nat → Nat} (hE : EnOK EN A) {wo : Int64 → Mem → va_W} {ad : Nat → Nat} {q qo : Nat} {a1 : Int32} {a2 : Int32} {o : Int64} {μ : Mem} {r : Int32} {μ' : Mem} (hw : ∀ o, PGAt cI cG adE (wo o) ad q) (ho : OutAt cL wo ad qo) (h : f_X6_put q a1 a2 μ = some (r, μ')) : Met l yL_put wsL_put (rmk 7 150) (WPre D (tyl cI cG cL) A EN (wo o μ) [.ref (ad q), .int a1, .int a2, .ref (ad qo)]) (PI D A (wo r.toInt64 μ') 0) 0 0 A := by
  refine met_startW (cc := cL_put) (nL := 5) (ret := some .int) (hh := [(0, 10, 13, 19), (0, 10, 17, 13)]) (own := RL) hE (by decide) rfl rfl (Nat.le_of_ble_eq_true rfl) (fun p e s m args below meth c ls X htab hS hl hr hlk => ?_)
  have hx := X.1.1
  have hb := X.1.2.1
  replace hl : lv_has ls 5 [(0, .ref (ad q)), (1, .int a1), (2, .int a2), (3, .ref (ad qo))] := hl
  refine lv_aload_n hx hb dL_put_0 rfl (lv_at hl 3 rfl) ?_
  refine lv_iconst (v := 0) hx hb dL_put_1 (by decide) ?_
  refine lv_aload_n hx hb dL_put_2 rfl (lv_at hl 0 rfl) ?_
  refine lv_iload_n hx hb dL_put_3 rfl (lv_at hl 1 rfl) ?_
  refine lv_iload_n hx hb dL_put_4 rfl (lv_at hl 2 rfl) ?_
  refine r_ci hS (r_runV (As := [.int a1, .int a2]) (rest := [.int 0, .ref (ad qo)]) X hS (c_X6_put l hE (w := wo o) (ad := ad) (μ := μ) (D := D) (cI := cI) (cG := cG) (cL := cL) (hw o) h) (cwV 2 X.1.2.2.2.2 gL_put_X6_put rfl rfl rfl (by decide +kernel) ⟨Nat.le_of_ble_eq_true rfl, Nat.le_of_ble_eq_true rfl⟩) (q0 := q) (ci := 4) rfl ((hw o).1 μ).1 rfl hl.1 rfl (Nat.le_of_ble_eq_true rfl) dL_put_5 ⟨Nat.zero_le _, Nat.zero_le _⟩) (fun H locs hS => ?_)
  refine lv_i2l (v := r.toInt64) hx hb dL_put_8 rfl ?_
  refine r_last X hS ho dL_put_9 (fun H locs hS => ?_)
  refine lv_goto (tgt := 21) hx hb dL_put_10 (by decide) ?_
  refine lv_iconst (v := 0) hx hb dL_put_21 (by decide) ?_
  exact r_iretN X hS hr hlk dL_put_22
set_option maxHeartbeats 4000000 in
set_option maxRecDepth 100000 in
theorem x_L_put_2 (l : Launch) {D : va_G} {cI cG cL : ClassId} {A : Nat → Prop} {tC tS : Nat} {adE adK adV : Nat → Nat} (hE : EnOK (ENV tC tS adE adK adV A) A) {wo : Int64 → Mem → va_W} {ad : Nat → Nat} {q qo : Nat} {a1 : Int32} {a2 : Int32} {o : Int64} {μ : Mem} (hw : ∀ o, PGAt cI cG adE (wo o) ad q) (ho : OutAt cL wo ad qo) (hst : l.stackTraces = false) (h : f_X6_put_t q a1 a2 μ = some 2) : Met l yL_put wsL_put (rmx 8 150) (WPre D (tyl cI cG cL) A (ENV tC tS adE adK adV A) (wo o μ) [.ref (ad q), .int a1, .int a2, .ref (ad qo)]) (PI D A (wo o μ) 1) 1 6 A := by
  refine met_startW (cc := cL_put) (nL := 5) (ret := some .int) (hh := [(0, 10, 13, 19), (0, 10, 17, 13)]) (own := RL) hE (by decide) rfl rfl (Nat.le_of_ble_eq_true rfl) (fun p e s m args below meth c ls X htab hS hl hr hlk => ?_)
  have hx := X.1.1
  have hb := X.1.2.1
  replace hl : lv_has ls 5 [(0, .ref (ad q)), (1, .int a1), (2, .int a2), (3, .ref (ad qo))] := hl
  have mk0 : Cond.classLink RL 19 xIA ∈ wsL_put := by decide +kernel
  refine lv_aload_n hx hb dL_put_0 rfl (lv_at hl 3 rfl) ?_
  refine lv_iconst (v := 0) hx hb dL_put_1 (by decide) ?_
  refine lv_aload_n hx hb dL_put_2 rfl (lv_at hl 0 rfl) ?_
  refine lv_iload_n hx hb dL_put_3 rfl (lv_at hl 1 rfl) ?_
  refine lv_iload_n hx hb dL_put_4 rfl (lv_at hl 2 rfl) ?_
  refine r_thr (r := 2) (As := [.int a1, .int a2]) (rest := [.int 0, .ref (ad qo)]) X hS (t_X6_put l hE (w := wo o) (ad := ad) (μ := μ) (D := D) (cI := cI) (cG := cG) (cL := cL) (hw o) hst h) (cwV 2 X.1.2.2.2.2 gL_put_X6_put rfl rfl rfl (by decide +kernel) ⟨Nat.le_of_ble_eq_true rfl, Nat.le_of_ble_eq_true rfl⟩) (q0 := q) (ci := 4) rfl ((hw o).1 μ).1 rfl hl.1 rfl (Nat.le_of_ble_eq_true rfl) dL_put_5 ⟨Nat.le_of_ble_eq_true rfl, Nat.le_of_ble_eq_true rfl⟩ [] ⟨0, 10, 13, 19⟩ [⟨0, 10, 17, 13⟩] htab (fun _ h => absurd h List.not_mem_nil) rfl (by decide) (X.1.2.2.2.2 _ mk0) (va_Nw.use rfl (X.env.2.1 (.castable xIA xIA) (List.mem_of_getElem? (i := 1) rfl))) (fun H locs q9 hS => ?_)
  refine lv_astore (lv' := [(4, .ref q9), (0, .ref (ad q)), (1, .int a1), (2, .int a2), (3, .ref (ad qo))]) hx hb dL_put_13 hl (by decide) rfl (fun ls hl => ?_)
  refine lv_iconst (v := 1) hx hb dL_put_15 (by decide) ?_
  exact r_iretN X hS hr hlk dL_put_16
set_option maxHeartbeats 4000000 in
set_option maxRecDepth 100000 in
theorem x_L_put_3 (l : Launch) {D : va_G} {cI cG cL : ClassId} {A : Nat → Prop} {tC tS : Nat} {adE adK adV : Nat → Nat} (hE : EnOK (ENV tC tS adE adK adV A) A) {wo : Int64 → Mem → va_W} {ad : Nat → Nat} {q qo : Nat} {a1 : Int32} {a2 : Int32} {o : Int64} {μ : Mem} (hw : ∀ o, PGAt cI cG adE (wo o) ad q) (ho : OutAt cL wo ad qo) (hst : l.stackTraces = false) (h : f_X6_put_t q a1 a2 μ = some 3) : Met l yL_put wsL_put (rmx 8 150) (WPre D (tyl cI cG cL) A (ENV tC tS adE adK adV A) (wo o μ) [.ref (ad q), .int a1, .int a2, .ref (ad qo)]) (PI D A (wo o μ) 2) 1 6 A := by
  refine met_startW (cc := cL_put) (nL := 5) (ret := some .int) (hh := [(0, 10, 13, 19), (0, 10, 17, 13)]) (own := RL) hE (by decide) rfl rfl (Nat.le_of_ble_eq_true rfl) (fun p e s m args below meth c ls X htab hS hl hr hlk => ?_)
  have hx := X.1.1
  have hb := X.1.2.1
  replace hl : lv_has ls 5 [(0, .ref (ad q)), (1, .int a1), (2, .int a2), (3, .ref (ad qo))] := hl
  have mk0 : Cond.classLink RL 19 xIA ∈ wsL_put := by decide +kernel
  have mk1 : Cond.classLink RL 13 xIS ∈ wsL_put := by decide +kernel
  refine lv_aload_n hx hb dL_put_0 rfl (lv_at hl 3 rfl) ?_
  refine lv_iconst (v := 0) hx hb dL_put_1 (by decide) ?_
  refine lv_aload_n hx hb dL_put_2 rfl (lv_at hl 0 rfl) ?_
  refine lv_iload_n hx hb dL_put_3 rfl (lv_at hl 1 rfl) ?_
  refine lv_iload_n hx hb dL_put_4 rfl (lv_at hl 2 rfl) ?_
  refine r_thr (r := 3) (As := [.int a1, .int a2]) (rest := [.int 0, .ref (ad qo)]) X hS (t_X6_put l hE (w := wo o) (ad := ad) (μ := μ) (D := D) (cI := cI) (cG := cG) (cL := cL) (hw o) hst h) (cwV 2 X.1.2.2.2.2 gL_put_X6_put rfl rfl rfl (by decide +kernel) ⟨Nat.le_of_ble_eq_true rfl, Nat.le_of_ble_eq_true rfl⟩) (q0 := q) (ci := 4) rfl ((hw o).1 μ).1 rfl hl.1 rfl (Nat.le_of_ble_eq_true rfl) dL_put_5 ⟨Nat.le_of_ble_eq_true rfl, Nat.le_of_ble_eq_true rfl⟩ [⟨0, 10, 13, 19⟩] ⟨0, 10, 17, 13⟩ [] htab (List.forall_mem_cons.mpr ⟨Or.inr ⟨by decide, _, X.1.2.2.2.2 _ mk0, X.env.2.2.1.1⟩, (fun _ h => absurd h List.not_mem_nil)⟩) rfl (by decide) (X.1.2.2.2.2 _ mk1) (va_Nw.use rfl (X.env.2.1 (.castable xIS xIS) (List.mem_of_getElem? (i := 2) rfl))) (fun H locs q9 hS => ?_)
  refine lv_astore (lv' := [(4, .ref q9), (0, .ref (ad q)), (1, .int a1), (2, .int a2), (3, .ref (ad qo))]) hx hb dL_put_17 hl (by decide) rfl (fun ls hl => ?_)
  refine lv_iconst (v := 2) hx hb dL_put_19 (by decide) ?_
  exact r_iretN X hS hr hlk dL_put_20
set_option maxHeartbeats 4000000 in
set_option maxRecDepth 100000 in
theorem o_L_remove (l : Launch) {D : va_G} {cI cG cL : ClassId} {A : Nat → Prop} {EN : State → Heap → Prop} {adE : Nat → Nat} (hE : EnOK EN A) {wo : Int64 → Mem → va_W} {ad : Nat → Nat} {q qo : Nat} {a1 : Int32} {o : Int64} {μ : Mem} {r : Int32} {μ' : Mem} (hw : ∀ o, PGAt cI cG adE (wo o) ad q) (ho : OutAt cL wo ad qo) (h : f_X6_remove q a1 μ = some (r, μ')) : Met l yL_remove wsL_remove (rmk 6 141) (WPre D (tyl cI cG cL) A EN (wo o μ) [.ref (ad q), .int a1, .ref (ad qo)]) (PI D A (wo r.toInt64 μ') 0) 0 0 A := by
  refine met_startW (cc := cL_remove) (nL := 4) (ret := some .int) (hh := [(0, 9, 12, 19), (0, 9, 15, 13)]) (own := RL) hE (by decide) rfl rfl (Nat.le_of_ble_eq_true rfl) (fun p e s m args below meth c ls X htab hS hl hr hlk => ?_)
  have hx := X.1.1
  have hb := X.1.2.1
  replace hl : lv_has ls 4 [(0, .ref (ad q)), (1, .int a1), (2, .ref (ad qo))] := hl
  refine lv_aload_n hx hb dL_remove_0 rfl (lv_at hl 2 rfl) ?_
  refine lv_iconst (v := 0) hx hb dL_remove_1 (by decide) ?_
  refine lv_aload_n hx hb dL_remove_2 rfl (lv_at hl 0 rfl) ?_
  refine lv_iload_n hx hb dL_remove_3 rfl (lv_at hl 1 rfl) ?_
  refine r_ci hS (r_runV (As := [.int a1]) (rest := [.int 0, .ref (ad qo)]) X hS (c_X6_remove l hE (w := wo o) (ad := ad) (μ := μ) (D := D) (cI := cI) (cG := cG) (cL := cL) (hw o) h) (cwV 1 X.1.2.2.2.2 gL_remove_X6_remove rfl rfl rfl (by decide +kernel) ⟨Nat.le_of_ble_eq_true rfl, Nat.le_of_ble_eq_true rfl⟩) (q0 := q) (ci := 4) rfl ((hw o).1 μ).1 rfl hl.1 rfl (Nat.le_of_ble_eq_true rfl) dL_remove_4 ⟨Nat.zero_le _, Nat.zero_le _⟩) (fun H locs hS => ?_)
  refine lv_i2l (v := r.toInt64) hx hb dL_remove_7 rfl ?_
  refine r_last X hS ho dL_remove_8 (fun H locs hS => ?_)
  refine lv_goto (tgt := 18) hx hb dL_remove_9 (by decide) ?_
  refine lv_iconst (v := 0) hx hb dL_remove_18 (by decide) ?_
  exact r_iretN X hS hr hlk dL_remove_19
set_option maxHeartbeats 4000000 in
set_option maxRecDepth 100000 in
theorem x_L_remove_2 (l : Launch) {D : va_G} {cI cG cL : ClassId} {A : Nat → Prop} {tC tS : Nat} {adE adK adV : Nat → Nat} (hE : EnOK (ENV tC tS adE adK adV A) A) {wo : Int64 → Mem → va_W} {ad : Nat → Nat} {q qo : Nat} {a1 : Int32} {o : Int64} {μ : Mem} (hw : ∀ o, PGAt cI cG adE (wo o) ad q) (ho : OutAt cL wo ad qo) (hst : l.stackTraces = false) (h : f_X6_remove_t q a1 μ = some 2) : Met l yL_remove wsL_remove (rmx 8 141) (WPre D (tyl cI cG cL) A (ENV tC tS adE adK adV A) (wo o μ) [.ref (ad q), .int a1, .ref (ad qo)]) (PI D A (wo o μ) 1) 1 6 A := by
  refine met_startW (cc := cL_remove) (nL := 4) (ret := some .int) (hh := [(0, 9, 12, 19), (0, 9, 15, 13)]) (own := RL) hE (by decide) rfl rfl (Nat.le_of_ble_eq_true rfl) (fun p e s m args below meth c ls X htab hS hl hr hlk => ?_)
  have hx := X.1.1
  have hb := X.1.2.1
  replace hl : lv_has ls 4 [(0, .ref (ad q)), (1, .int a1), (2, .ref (ad qo))] := hl
  have mk0 : Cond.classLink RL 19 xIA ∈ wsL_remove := by decide +kernel
  refine lv_aload_n hx hb dL_remove_0 rfl (lv_at hl 2 rfl) ?_
  refine lv_iconst (v := 0) hx hb dL_remove_1 (by decide) ?_
  refine lv_aload_n hx hb dL_remove_2 rfl (lv_at hl 0 rfl) ?_
  refine lv_iload_n hx hb dL_remove_3 rfl (lv_at hl 1 rfl) ?_
  refine r_thr (r := 2) (As := [.int a1]) (rest := [.int 0, .ref (ad qo)]) X hS (t_X6_remove l hE (w := wo o) (ad := ad) (μ := μ) (D := D) (cI := cI) (cG := cG) (cL := cL) (hw o) hst h) (cwV 1 X.1.2.2.2.2 gL_remove_X6_remove rfl rfl rfl (by decide +kernel) ⟨Nat.le_of_ble_eq_true rfl, Nat.le_of_ble_eq_true rfl⟩) (q0 := q) (ci := 4) rfl ((hw o).1 μ).1 rfl hl.1 rfl (Nat.le_of_ble_eq_true rfl) dL_remove_4 ⟨Nat.le_of_ble_eq_true rfl, Nat.le_of_ble_eq_true rfl⟩ [] ⟨0, 9, 12, 19⟩ [⟨0, 9, 15, 13⟩] htab (fun _ h => absurd h List.not_mem_nil) rfl (by decide) (X.1.2.2.2.2 _ mk0) (va_Nw.use rfl (X.env.2.1 (.castable xIA xIA) (List.mem_of_getElem? (i := 1) rfl))) (fun H locs q9 hS => ?_)
  refine lv_astore_n (lv' := [(3, .ref q9), (0, .ref (ad q)), (1, .int a1), (2, .ref (ad qo))]) hx hb dL_remove_12 rfl hl (by decide) rfl (fun ls hl => ?_)
  refine lv_iconst (v := 1) hx hb dL_remove_13 (by decide) ?_
  exact r_iretN X hS hr hlk dL_remove_14
set_option maxHeartbeats 4000000 in
set_option maxRecDepth 100000 in
theorem x_L_remove_3 (l : Launch) {D : va_G} {cI cG cL : ClassId} {A : Nat → Prop} {tC tS : Nat} {adE adK adV : Nat → Nat} (hE : EnOK (ENV tC tS adE adK adV A) A) {wo : Int64 → Mem → va_W} {ad : Nat → Nat} {q qo : Nat} {a1 : Int32} {o : Int64} {μ : Mem} (hw : ∀ o, PGAt cI cG adE (wo o) ad q) (ho : OutAt cL wo ad qo) (hst : l.stackTraces = false) (h : f_X6_remove_t q a1 μ = some 3) : Met l yL_remove wsL_remove (rmx 8 141) (WPre D (tyl cI cG cL) A (ENV tC tS adE adK adV A) (wo o μ) [.ref (ad q), .int a1, .ref (ad qo)]) (PI D A (wo o μ) 2) 1 6 A := by
  refine met_startW (cc := cL_remove) (nL := 4) (ret := some .int) (hh := [(0, 9, 12, 19), (0, 9, 15, 13)]) (own := RL) hE (by decide) rfl rfl (Nat.le_of_ble_eq_true rfl) (fun p e s m args below meth c ls X htab hS hl hr hlk => ?_)
  have hx := X.1.1
  have hb := X.1.2.1
  replace hl : lv_has ls 4 [(0, .ref (ad q)), (1, .int a1), (2, .ref (ad qo))] := hl
  have mk0 : Cond.classLink RL 19 xIA ∈ wsL_remove := by decide +kernel
  have mk1 : Cond.classLink RL 13 xIS ∈ wsL_remove := by decide +kernel
  refine lv_aload_n hx hb dL_remove_0 rfl (lv_at hl 2 rfl) ?_
  refine lv_iconst (v := 0) hx hb dL_remove_1 (by decide) ?_
  refine lv_aload_n hx hb dL_remove_2 rfl (lv_at hl 0 rfl) ?_
  refine lv_iload_n hx hb dL_remove_3 rfl (lv_at hl 1 rfl) ?_
  refine r_thr (r := 3) (As := [.int a1]) (rest := [.int 0, .ref (ad qo)]) X hS (t_X6_remove l hE (w := wo o) (ad := ad) (μ := μ) (D := D) (cI := cI) (cG := cG) (cL := cL) (hw o) hst h) (cwV 1 X.1.2.2.2.2 gL_remove_X6_remove rfl rfl rfl (by decide +kernel) ⟨Nat.le_of_ble_eq_true rfl, Nat.le_of_ble_eq_true rfl⟩) (q0 := q) (ci := 4) rfl ((hw o).1 μ).1 rfl hl.1 rfl (Nat.le_of_ble_eq_true rfl) dL_remove_4 ⟨Nat.le_of_ble_eq_true rfl, Nat.le_of_ble_eq_true rfl⟩ [⟨0, 9, 12, 19⟩] ⟨0, 9, 15, 13⟩ [] htab (List.forall_mem_cons.mpr ⟨Or.inr ⟨by decide, _, X.1.2.2.2.2 _ mk0, X.env.2.2.1.1⟩, (fun _ h => absurd h List.not_mem_nil)⟩) rfl (by decide) (X.1.2.2.2.2 _ mk1) (va_Nw.use rfl (X.env.2.1 (.castable xIS xIS) (List.mem_of_getElem? (i := 2) rfl))) (fun H locs q9 hS => ?_)
  refine lv_astore_n (lv' := [(3, .ref q9), (0, .ref (ad q)), (1, .int a1), (2, .ref (ad qo))]) hx hb dL_remove_15 rfl hl (by decide) rfl (fun ls hl => ?_)
  refine lv_iconst (v := 2) hx hb dL_remove_16 (by decide) ?_
  exact r_iretN X hS hr hlk dL_remove_17
set_option maxHeartbeats 4000000 in
set_option maxRecDepth 100000 in
theorem o_L_commit (l : Launch) {D : va_G} {cI cG cL : ClassId} {A : Nat → Prop} {EN : State → Heap → Prop} {adE : Nat → Nat} (hE : EnOK EN A) {wo : Int64 → Mem → va_W} {ad : Nat → Nat} {q qo : Nat} {a1 : Int32} {o : Int64} {μ : Mem} {r : Int32} {μ' : Mem} (hw : ∀ o, PGAt cI cG adE (wo o) ad q) (ho : OutAt cL wo ad qo) (h : f_X6_commit q a1 μ = some (r, μ')) : Met l yL_commit wsL_commit (rmk 6 127) (WPre D (tyl cI cG cL) A EN (wo o μ) [.ref (ad q), .int a1, .ref (ad qo)]) (PI D A (wo r.toInt64 μ') 0) 0 0 A := by
  refine met_startW (cc := cL_commit) (nL := 4) (ret := some .int) (hh := [(0, 9, 12, 19), (0, 9, 15, 13)]) (own := RL) hE (by decide) rfl rfl (Nat.le_of_ble_eq_true rfl) (fun p e s m args below meth c ls X htab hS hl hr hlk => ?_)
  have hx := X.1.1
  have hb := X.1.2.1
  replace hl : lv_has ls 4 [(0, .ref (ad q)), (1, .int a1), (2, .ref (ad qo))] := hl
  refine lv_aload_n hx hb dL_commit_0 rfl (lv_at hl 2 rfl) ?_
  refine lv_iconst (v := 0) hx hb dL_commit_1 (by decide) ?_
  refine lv_aload_n hx hb dL_commit_2 rfl (lv_at hl 0 rfl) ?_
  refine lv_iload_n hx hb dL_commit_3 rfl (lv_at hl 1 rfl) ?_
  refine r_ci hS (r_runV (As := [.int a1]) (rest := [.int 0, .ref (ad qo)]) X hS (c_X6_commit l hE (w := wo o) (ad := ad) (μ := μ) (D := D) (cI := cI) (cG := cG) (cL := cL) (hw o) h) (cwV 1 X.1.2.2.2.2 gL_commit_X6_commit rfl rfl rfl (by decide +kernel) ⟨Nat.le_of_ble_eq_true rfl, Nat.le_of_ble_eq_true rfl⟩) (q0 := q) (ci := 4) rfl ((hw o).1 μ).1 rfl hl.1 rfl (Nat.le_of_ble_eq_true rfl) dL_commit_4 ⟨Nat.zero_le _, Nat.zero_le _⟩) (fun H locs hS => ?_)
  refine lv_i2l (v := r.toInt64) hx hb dL_commit_7 rfl ?_
  refine r_last X hS ho dL_commit_8 (fun H locs hS => ?_)
  refine lv_goto (tgt := 18) hx hb dL_commit_9 (by decide) ?_
  refine lv_iconst (v := 0) hx hb dL_commit_18 (by decide) ?_
  exact r_iretN X hS hr hlk dL_commit_19
set_option maxHeartbeats 4000000 in
set_option maxRecDepth 100000 in
theorem x_L_commit_2 (l : Launch) {D : va_G} {cI cG cL : ClassId} {A : Nat → Prop} {tC tS : Nat} {adE adK adV : Nat → Nat} (hE : EnOK (ENV tC tS adE adK adV A) A) {wo : Int64 → Mem → va_W} {ad : Nat → Nat} {q qo : Nat} {a1 : Int32} {o : Int64} {μ : Mem} (hw : ∀ o, PGAt cI cG adE (wo o) ad q) (ho : OutAt cL wo ad qo) (hst : l.stackTraces = false) (h : f_X6_commit_t q a1 μ = some 2) : Met l yL_commit wsL_commit (rmx 8 127) (WPre D (tyl cI cG cL) A (ENV tC tS adE adK adV A) (wo o μ) [.ref (ad q), .int a1, .ref (ad qo)]) (PI D A (wo o μ) 1) 1 6 A := by
  refine met_startW (cc := cL_commit) (nL := 4) (ret := some .int) (hh := [(0, 9, 12, 19), (0, 9, 15, 13)]) (own := RL) hE (by decide) rfl rfl (Nat.le_of_ble_eq_true rfl) (fun p e s m args below meth c ls X htab hS hl hr hlk => ?_)
  have hx := X.1.1
  have hb := X.1.2.1
  replace hl : lv_has ls 4 [(0, .ref (ad q)), (1, .int a1), (2, .ref (ad qo))] := hl
  have mk0 : Cond.classLink RL 19 xIA ∈ wsL_commit := by decide +kernel
  refine lv_aload_n hx hb dL_commit_0 rfl (lv_at hl 2 rfl) ?_
  refine lv_iconst (v := 0) hx hb dL_commit_1 (by decide) ?_
  refine lv_aload_n hx hb dL_commit_2 rfl (lv_at hl 0 rfl) ?_
  refine lv_iload_n hx hb dL_commit_3 rfl (lv_at hl 1 rfl) ?_
  refine r_thr (r := 2) (As := [.int a1]) (rest := [.int 0, .ref (ad qo)]) X hS (t_X6_commit l hE (w := wo o) (ad := ad) (μ := μ) (D := D) (cI := cI) (cG := cG) (cL := cL) (hw o) hst h) (cwV 1 X.1.2.2.2.2 gL_commit_X6_commit rfl rfl rfl (by decide +kernel) ⟨Nat.le_of_ble_eq_true rfl, Nat.le_of_ble_eq_true rfl⟩) (q0 := q) (ci := 4) rfl ((hw o).1 μ).1 rfl hl.1 rfl (Nat.le_of_ble_eq_true rfl) dL_commit_4 ⟨Nat.le_of_ble_eq_true rfl, Nat.le_of_ble_eq_true rfl⟩ [] ⟨0, 9, 12, 19⟩ [⟨0, 9, 15, 13⟩] htab (fun _ h => absurd h List.not_mem_nil) rfl (by decide) (X.1.2.2.2.2 _ mk0) (va_Nw.use rfl (X.env.2.1 (.castable xIA xIA) (List.mem_of_getElem? (i := 1) rfl))) (fun H locs q9 hS => ?_)
  refine lv_astore_n (lv' := [(3, .ref q9), (0, .ref (ad q)), (1, .int a1), (2, .ref (ad qo))]) hx hb dL_commit_12 rfl hl (by decide) rfl (fun ls hl => ?_)
  refine lv_iconst (v := 1) hx hb dL_commit_13 (by decide) ?_
  exact r_iretN X hS hr hlk dL_commit_14
set_option maxHeartbeats 4000000 in
set_option maxRecDepth 100000 in
theorem x_L_commit_3 (l : Launch) {D : va_G} {cI cG cL : ClassId} {A : Nat → Prop} {tC tS : Nat} {adE adK adV : Nat → Nat} (hE : EnOK (ENV tC tS adE adK adV A) A) {wo : Int64 → Mem → va_W} {ad : Nat → Nat} {q qo : Nat} {a1 : Int32} {o : Int64} {μ : Mem} (hw : ∀ o, PGAt cI cG adE (wo o) ad q) (ho : OutAt cL wo ad qo) (hst : l.stackTraces = false) (h : f_X6_commit_t q a1 μ = some 3) : Met l yL_commit wsL_commit (rmx 8 127) (WPre D (tyl cI cG cL) A (ENV tC tS adE adK adV A) (wo o μ) [.ref (ad q), .int a1, .ref (ad qo)]) (PI D A (wo o μ) 2) 1 6 A := by
  refine met_startW (cc := cL_commit) (nL := 4) (ret := some .int) (hh := [(0, 9, 12, 19), (0, 9, 15, 13)]) (own := RL) hE (by decide) rfl rfl (Nat.le_of_ble_eq_true rfl) (fun p e s m args below meth c ls X htab hS hl hr hlk => ?_)
  have hx := X.1.1
  have hb := X.1.2.1
  replace hl : lv_has ls 4 [(0, .ref (ad q)), (1, .int a1), (2, .ref (ad qo))] := hl
  have mk0 : Cond.classLink RL 19 xIA ∈ wsL_commit := by decide +kernel
  have mk1 : Cond.classLink RL 13 xIS ∈ wsL_commit := by decide +kernel
  refine lv_aload_n hx hb dL_commit_0 rfl (lv_at hl 2 rfl) ?_
  refine lv_iconst (v := 0) hx hb dL_commit_1 (by decide) ?_
  refine lv_aload_n hx hb dL_commit_2 rfl (lv_at hl 0 rfl) ?_
  refine lv_iload_n hx hb dL_commit_3 rfl (lv_at hl 1 rfl) ?_
  refine r_thr (r := 3) (As := [.int a1]) (rest := [.int 0, .ref (ad qo)]) X hS (t_X6_commit l hE (w := wo o) (ad := ad) (μ := μ) (D := D) (cI := cI) (cG := cG) (cL := cL) (hw o) hst h) (cwV 1 X.1.2.2.2.2 gL_commit_X6_commit rfl rfl rfl (by decide +kernel) ⟨Nat.le_of_ble_eq_true rfl, Nat.le_of_ble_eq_true rfl⟩) (q0 := q) (ci := 4) rfl ((hw o).1 μ).1 rfl hl.1 rfl (Nat.le_of_ble_eq_true rfl) dL_commit_4 ⟨Nat.le_of_ble_eq_true rfl, Nat.le_of_ble_eq_true rfl⟩ [⟨0, 9, 12, 19⟩] ⟨0, 9, 15, 13⟩ [] htab (List.forall_mem_cons.mpr ⟨Or.inr ⟨by decide, _, X.1.2.2.2.2 _ mk0, X.env.2.2.1.1⟩, (fun _ h => absurd h List.not_mem_nil)⟩) rfl (by decide) (X.1.2.2.2.2 _ mk1) (va_Nw.use rfl (X.env.2.1 (.castable xIS xIS) (List.mem_of_getElem? (i := 2) rfl))) (fun H locs q9 hS => ?_)
  refine lv_astore_n (lv' := [(3, .ref q9), (0, .ref (ad q)), (1, .int a1), (2, .ref (ad qo))]) hx hb dL_commit_15 rfl hl (by decide) rfl (fun ls hl => ?_)
  refine lv_iconst (v := 2) hx hb dL_commit_16 (by decide) ?_
  exact r_iretN X hS hr hlk dL_commit_17
set_option maxHeartbeats 4000000 in
set_option maxRecDepth 100000 in
theorem o_L_abort (l : Launch) {D : va_G} {cI cG cL : ClassId} {A : Nat → Prop} {EN : State → Heap → Prop} {adE : Nat → Nat} (hE : EnOK EN A) {wo : Int64 → Mem → va_W} {ad : Nat → Nat} {q qo : Nat} {o : Int64} {μ : Mem} {r : Int32} {μ' : Mem} (hw : ∀ o, PGAt cI cG adE (wo o) ad q) (ho : OutAt cL wo ad qo) (h : f_X6_abort q μ = some (r, μ')) : Met l yL_abort wsL_abort (rmk 5 106) (WPre D (tyl cI cG cL) A EN (wo o μ) [.ref (ad q), .ref (ad qo)]) (PI D A (wo r.toInt64 μ') 0) 0 0 A := by
  refine met_startW (cc := cL_abort) (nL := 3) (ret := some .int) (hh := [(0, 8, 11, 13)]) (own := RL) hE (by decide) rfl rfl (Nat.le_of_ble_eq_true rfl) (fun p e s m args below meth c ls X htab hS hl hr hlk => ?_)
  have hx := X.1.1
  have hb := X.1.2.1
  replace hl : lv_has ls 3 [(0, .ref (ad q)), (1, .ref (ad qo))] := hl
  refine lv_aload_n hx hb dL_abort_0 rfl (lv_at hl 1 rfl) ?_
  refine lv_iconst (v := 0) hx hb dL_abort_1 (by decide) ?_
  refine lv_aload_n hx hb dL_abort_2 rfl (lv_at hl 0 rfl) ?_
  refine r_ci hS (r_runV (As := []) (rest := [.int 0, .ref (ad qo)]) X hS (c_X6_abort l hE (w := wo o) (ad := ad) (μ := μ) (D := D) (cI := cI) (cG := cG) (cL := cL) (hw o) h) (cwV 0 X.1.2.2.2.2 gL_abort_X6_abort rfl rfl rfl (by decide +kernel) ⟨Nat.le_of_ble_eq_true rfl, Nat.le_of_ble_eq_true rfl⟩) (q0 := q) (ci := 4) rfl ((hw o).1 μ).1 rfl hl.1 rfl (Nat.le_of_ble_eq_true rfl) dL_abort_3 ⟨Nat.zero_le _, Nat.zero_le _⟩) (fun H locs hS => ?_)
  refine lv_i2l (v := r.toInt64) hx hb dL_abort_6 rfl ?_
  refine r_last X hS ho dL_abort_7 (fun H locs hS => ?_)
  refine lv_goto (tgt := 14) hx hb dL_abort_8 (by decide) ?_
  refine lv_iconst (v := 0) hx hb dL_abort_14 (by decide) ?_
  exact r_iretN X hS hr hlk dL_abort_15
set_option maxHeartbeats 4000000 in
set_option maxRecDepth 100000 in
theorem x_L_abort_3 (l : Launch) {D : va_G} {cI cG cL : ClassId} {A : Nat → Prop} {tC tS : Nat} {adE adK adV : Nat → Nat} (hE : EnOK (ENV tC tS adE adK adV A) A) {wo : Int64 → Mem → va_W} {ad : Nat → Nat} {q qo : Nat} {o : Int64} {μ : Mem} (hw : ∀ o, PGAt cI cG adE (wo o) ad q) (ho : OutAt cL wo ad qo) (hst : l.stackTraces = false) (h : f_X6_abort_t q μ = some 3) : Met l yL_abort wsL_abort (rmx 8 122) (WPre D (tyl cI cG cL) A (ENV tC tS adE adK adV A) (wo o μ) [.ref (ad q), .ref (ad qo)]) (PI D A (wo o μ) 1) 1 6 A := by
  refine met_startW (cc := cL_abort) (nL := 3) (ret := some .int) (hh := [(0, 8, 11, 13)]) (own := RL) hE (by decide) rfl rfl (Nat.le_of_ble_eq_true rfl) (fun p e s m args below meth c ls X htab hS hl hr hlk => ?_)
  have hx := X.1.1
  have hb := X.1.2.1
  replace hl : lv_has ls 3 [(0, .ref (ad q)), (1, .ref (ad qo))] := hl
  have mk0 : Cond.classLink RL 13 xIS ∈ wsL_abort := by decide +kernel
  refine lv_aload_n hx hb dL_abort_0 rfl (lv_at hl 1 rfl) ?_
  refine lv_iconst (v := 0) hx hb dL_abort_1 (by decide) ?_
  refine lv_aload_n hx hb dL_abort_2 rfl (lv_at hl 0 rfl) ?_
  refine r_thr (r := 3) (As := []) (rest := [.int 0, .ref (ad qo)]) X hS (t_X6_abort l hE (w := wo o) (ad := ad) (μ := μ) (D := D) (cI := cI) (cG := cG) (cL := cL) (hw o) hst h) (cwV 0 X.1.2.2.2.2 gL_abort_X6_abort rfl rfl rfl (by decide +kernel) ⟨Nat.le_of_ble_eq_true rfl, Nat.le_of_ble_eq_true rfl⟩) (q0 := q) (ci := 4) rfl ((hw o).1 μ).1 rfl hl.1 rfl (Nat.le_of_ble_eq_true rfl) dL_abort_3 ⟨Nat.le_of_ble_eq_true rfl, Nat.le_of_ble_eq_true rfl⟩ [] ⟨0, 8, 11, 13⟩ [] htab (fun _ h => absurd h List.not_mem_nil) rfl (by decide) (X.1.2.2.2.2 _ mk0) (va_Nw.use rfl (X.env.2.1 (.castable xIS xIS) (List.mem_of_getElem? (i := 2) rfl))) (fun H locs q9 hS => ?_)
  refine lv_astore_n (lv' := [(2, .ref q9), (0, .ref (ad q)), (1, .ref (ad qo))]) hx hb dL_abort_11 rfl hl (by decide) rfl (fun ls hl => ?_)
  refine lv_iconst (v := 1) hx hb dL_abort_12 (by decide) ?_
  exact r_iretN X hS hr hlk dL_abort_13
set_option maxHeartbeats 4000000 in
set_option maxRecDepth 100000 in
theorem o_L_open (l : Launch) {D : va_G} {cI cG cL : ClassId} {A : Nat → Prop} {EN : State → Heap → Prop} {adE : Nat → Nat} (hE : EnOK EN A) {wo : Int64 → Mem → va_W} {ad : Nat → Nat} {q qo : Nat} {o : Int64} {μ : Mem} {r : Int32} {μ' : Mem} (hw : ∀ o, PGAt cI cG adE (wo o) ad q) (ho : OutAt cL wo ad qo) (h : f_X6_open q μ = some (r, μ')) : Met l yL_open wsL_open (rmk 5 106) (WPre D (tyl cI cG cL) A EN (wo o μ) [.ref (ad q), .ref (ad qo)]) (PI D A (wo r.toInt64 μ') 0) 0 0 A := by
  refine met_startW (cc := cL_open) (nL := 3) (ret := some .int) (hh := [(0, 8, 11, 13)]) (own := RL) hE (by decide) rfl rfl (Nat.le_of_ble_eq_true rfl) (fun p e s m args below meth c ls X htab hS hl hr hlk => ?_)
  have hx := X.1.1
  have hb := X.1.2.1
  replace hl : lv_has ls 3 [(0, .ref (ad q)), (1, .ref (ad qo))] := hl
  refine lv_aload_n hx hb dL_open_0 rfl (lv_at hl 1 rfl) ?_
  refine lv_iconst (v := 0) hx hb dL_open_1 (by decide) ?_
  refine lv_aload_n hx hb dL_open_2 rfl (lv_at hl 0 rfl) ?_
  refine r_ci hS (r_runV (As := []) (rest := [.int 0, .ref (ad qo)]) X hS (c_X6_open l hE (w := wo o) (ad := ad) (μ := μ) (D := D) (cI := cI) (cG := cG) (cL := cL) (hw o) h) (cwV 0 X.1.2.2.2.2 gL_open_X6_open rfl rfl rfl (by decide +kernel) ⟨Nat.le_of_ble_eq_true rfl, Nat.le_of_ble_eq_true rfl⟩) (q0 := q) (ci := 4) rfl ((hw o).1 μ).1 rfl hl.1 rfl (Nat.le_of_ble_eq_true rfl) dL_open_3 ⟨Nat.zero_le _, Nat.zero_le _⟩) (fun H locs hS => ?_)
  refine lv_i2l (v := r.toInt64) hx hb dL_open_6 rfl ?_
  refine r_last X hS ho dL_open_7 (fun H locs hS => ?_)
  refine lv_goto (tgt := 14) hx hb dL_open_8 (by decide) ?_
  refine lv_iconst (v := 0) hx hb dL_open_14 (by decide) ?_
  exact r_iretN X hS hr hlk dL_open_15
set_option maxHeartbeats 4000000 in
set_option maxRecDepth 100000 in
theorem x_L_open_3 (l : Launch) {D : va_G} {cI cG cL : ClassId} {A : Nat → Prop} {tC tS : Nat} {adE adK adV : Nat → Nat} (hE : EnOK (ENV tC tS adE adK adV A) A) {wo : Int64 → Mem → va_W} {ad : Nat → Nat} {q qo : Nat} {o : Int64} {μ : Mem} (hw : ∀ o, PGAt cI cG adE (wo o) ad q) (ho : OutAt cL wo ad qo) (hst : l.stackTraces = false) (h : f_X6_open_t q μ = some 3) : Met l yL_open wsL_open (rmx 8 122) (WPre D (tyl cI cG cL) A (ENV tC tS adE adK adV A) (wo o μ) [.ref (ad q), .ref (ad qo)]) (PI D A (wo o μ) 1) 1 6 A := by
  refine met_startW (cc := cL_open) (nL := 3) (ret := some .int) (hh := [(0, 8, 11, 13)]) (own := RL) hE (by decide) rfl rfl (Nat.le_of_ble_eq_true rfl) (fun p e s m args below meth c ls X htab hS hl hr hlk => ?_)
  have hx := X.1.1
  have hb := X.1.2.1
  replace hl : lv_has ls 3 [(0, .ref (ad q)), (1, .ref (ad qo))] := hl
  have mk0 : Cond.classLink RL 13 xIS ∈ wsL_open := by decide +kernel
  refine lv_aload_n hx hb dL_open_0 rfl (lv_at hl 1 rfl) ?_
  refine lv_iconst (v := 0) hx hb dL_open_1 (by decide) ?_
  refine lv_aload_n hx hb dL_open_2 rfl (lv_at hl 0 rfl) ?_
  refine r_thr (r := 3) (As := []) (rest := [.int 0, .ref (ad qo)]) X hS (t_X6_open l hE (w := wo o) (ad := ad) (μ := μ) (D := D) (cI := cI) (cG := cG) (cL := cL) (hw o) hst h) (cwV 0 X.1.2.2.2.2 gL_open_X6_open rfl rfl rfl (by decide +kernel) ⟨Nat.le_of_ble_eq_true rfl, Nat.le_of_ble_eq_true rfl⟩) (q0 := q) (ci := 4) rfl ((hw o).1 μ).1 rfl hl.1 rfl (Nat.le_of_ble_eq_true rfl) dL_open_3 ⟨Nat.le_of_ble_eq_true rfl, Nat.le_of_ble_eq_true rfl⟩ [] ⟨0, 8, 11, 13⟩ [] htab (fun _ h => absurd h List.not_mem_nil) rfl (by decide) (X.1.2.2.2.2 _ mk0) (va_Nw.use rfl (X.env.2.1 (.castable xIS xIS) (List.mem_of_getElem? (i := 2) rfl))) (fun H locs q9 hS => ?_)
  refine lv_astore_n (lv' := [(2, .ref q9), (0, .ref (ad q)), (1, .ref (ad qo))]) hx hb dL_open_11 rfl hl (by decide) rfl (fun ls hl => ?_)
  refine lv_iconst (v := 1) hx hb dL_open_12 (by decide) ?_
  exact r_iretN X hS hr hlk dL_open_13
set_option maxHeartbeats 4000000 in
set_option maxRecDepth 100000 in
theorem o_L_close (l : Launch) {D : va_G} {cI cG cL : ClassId} {A : Nat → Prop} {EN : State → Heap → Prop} {adE : Nat → Nat} (hE : EnOK EN A) {wo : Int64 → Mem → va_W} {ad : Nat → Nat} {q qo : Nat} {a1 : Int32} {o : Int64} {μ : Mem} {r : Int32} {μ' : Mem} (hw : ∀ o, PGAt cI cG adE (wo o) ad q) (ho : OutAt cL wo ad qo) (h : f_X6_close q a1 μ = some (r, μ')) : Met l yL_close wsL_close (rmk 5 107) (WPre D (tyl cI cG cL) A EN (wo o μ) [.ref (ad q), .int a1, .ref (ad qo)]) (PI D A (wo r.toInt64 μ') 0) 0 0 A := by
  refine met_startW (cc := cL_close) (nL := 4) (ret := some .int) (hh := [(0, 9, 12, 37), (0, 9, 15, 13)]) (own := RL) hE (by decide) rfl rfl (Nat.le_of_ble_eq_true rfl) (fun p e s m args below meth c ls X htab hS hl hr hlk => ?_)
  have hx := X.1.1
  have hb := X.1.2.1
  replace hl : lv_has ls 4 [(0, .ref (ad q)), (1, .int a1), (2, .ref (ad qo))] := hl
  refine lv_aload_n hx hb dL_close_0 rfl (lv_at hl 2 rfl) ?_
  refine lv_iconst (v := 0) hx hb dL_close_1 (by decide) ?_
  refine lv_aload_n hx hb dL_close_2 rfl (lv_at hl 0 rfl) ?_
  refine lv_iload_n hx hb dL_close_3 rfl (lv_at hl 1 rfl) ?_
  refine r_ci hS (r_runV (As := [.int a1]) (rest := [.int 0, .ref (ad qo)]) X hS (c_X6_close l hE (w := wo o) (ad := ad) (μ := μ) (D := D) (cI := cI) (cG := cG) (cL := cL) (hw o) h) (cwV 1 X.1.2.2.2.2 gL_close_X6_close rfl rfl rfl (by decide +kernel) ⟨Nat.le_of_ble_eq_true rfl, Nat.le_of_ble_eq_true rfl⟩) (q0 := q) (ci := 4) rfl ((hw o).1 μ).1 rfl hl.1 rfl (Nat.le_of_ble_eq_true rfl) dL_close_4 ⟨Nat.zero_le _, Nat.zero_le _⟩) (fun H locs hS => ?_)
  refine lv_i2l (v := r.toInt64) hx hb dL_close_7 rfl ?_
  refine r_last X hS ho dL_close_8 (fun H locs hS => ?_)
  refine lv_goto (tgt := 18) hx hb dL_close_9 (by decide) ?_
  refine lv_iconst (v := 0) hx hb dL_close_18 (by decide) ?_
  exact r_iretN X hS hr hlk dL_close_19
set_option maxHeartbeats 4000000 in
set_option maxRecDepth 100000 in
theorem x_L_close_1 (l : Launch) {D : va_G} {cI cG cL : ClassId} {A : Nat → Prop} {tC tS : Nat} {adE adK adV : Nat → Nat} (hE : EnOK (ENV tC tS adE adK adV A) A) {wo : Int64 → Mem → va_W} {ad : Nat → Nat} {q qo : Nat} {a1 : Int32} {o : Int64} {μ : Mem} (hw : ∀ o, PGAt cI cG adE (wo o) ad q) (ho : OutAt cL wo ad qo) (hst : l.stackTraces = false) (h : f_X6_close_t q a1 μ = some 1) : Met l yL_close wsL_close (rmx 8 123) (WPre D (tyl cI cG cL) A (ENV tC tS adE adK adV A) (wo o μ) [.ref (ad q), .int a1, .ref (ad qo)]) (PI D A (wo o μ) 1) 1 6 A := by
  refine met_startW (cc := cL_close) (nL := 4) (ret := some .int) (hh := [(0, 9, 12, 37), (0, 9, 15, 13)]) (own := RL) hE (by decide) rfl rfl (Nat.le_of_ble_eq_true rfl) (fun p e s m args below meth c ls X htab hS hl hr hlk => ?_)
  have hx := X.1.1
  have hb := X.1.2.1
  replace hl : lv_has ls 4 [(0, .ref (ad q)), (1, .int a1), (2, .ref (ad qo))] := hl
  have mk0 : Cond.classLink RL 37 xIO ∈ wsL_close := by decide +kernel
  refine lv_aload_n hx hb dL_close_0 rfl (lv_at hl 2 rfl) ?_
  refine lv_iconst (v := 0) hx hb dL_close_1 (by decide) ?_
  refine lv_aload_n hx hb dL_close_2 rfl (lv_at hl 0 rfl) ?_
  refine lv_iload_n hx hb dL_close_3 rfl (lv_at hl 1 rfl) ?_
  refine r_thr (r := 1) (As := [.int a1]) (rest := [.int 0, .ref (ad qo)]) X hS (t_X6_close l hE (w := wo o) (ad := ad) (μ := μ) (D := D) (cI := cI) (cG := cG) (cL := cL) (hw o) hst h) (cwV 1 X.1.2.2.2.2 gL_close_X6_close rfl rfl rfl (by decide +kernel) ⟨Nat.le_of_ble_eq_true rfl, Nat.le_of_ble_eq_true rfl⟩) (q0 := q) (ci := 4) rfl ((hw o).1 μ).1 rfl hl.1 rfl (Nat.le_of_ble_eq_true rfl) dL_close_4 ⟨Nat.le_of_ble_eq_true rfl, Nat.le_of_ble_eq_true rfl⟩ [] ⟨0, 9, 12, 37⟩ [⟨0, 9, 15, 13⟩] htab (fun _ h => absurd h List.not_mem_nil) rfl (by decide) (X.1.2.2.2.2 _ mk0) (va_Nw.use rfl (X.env.2.1 (.castable xIO xIO) (List.mem_of_getElem? (i := 0) rfl))) (fun H locs q9 hS => ?_)
  refine lv_astore_n (lv' := [(3, .ref q9), (0, .ref (ad q)), (1, .int a1), (2, .ref (ad qo))]) hx hb dL_close_12 rfl hl (by decide) rfl (fun ls hl => ?_)
  refine lv_iconst (v := 1) hx hb dL_close_13 (by decide) ?_
  exact r_iretN X hS hr hlk dL_close_14
set_option maxHeartbeats 4000000 in
set_option maxRecDepth 100000 in
theorem x_L_close_3 (l : Launch) {D : va_G} {cI cG cL : ClassId} {A : Nat → Prop} {tC tS : Nat} {adE adK adV : Nat → Nat} (hE : EnOK (ENV tC tS adE adK adV A) A) {wo : Int64 → Mem → va_W} {ad : Nat → Nat} {q qo : Nat} {a1 : Int32} {o : Int64} {μ : Mem} (hw : ∀ o, PGAt cI cG adE (wo o) ad q) (ho : OutAt cL wo ad qo) (hst : l.stackTraces = false) (h : f_X6_close_t q a1 μ = some 3) : Met l yL_close wsL_close (rmx 8 123) (WPre D (tyl cI cG cL) A (ENV tC tS adE adK adV A) (wo o μ) [.ref (ad q), .int a1, .ref (ad qo)]) (PI D A (wo o μ) 2) 1 6 A := by
  refine met_startW (cc := cL_close) (nL := 4) (ret := some .int) (hh := [(0, 9, 12, 37), (0, 9, 15, 13)]) (own := RL) hE (by decide) rfl rfl (Nat.le_of_ble_eq_true rfl) (fun p e s m args below meth c ls X htab hS hl hr hlk => ?_)
  have hx := X.1.1
  have hb := X.1.2.1
  replace hl : lv_has ls 4 [(0, .ref (ad q)), (1, .int a1), (2, .ref (ad qo))] := hl
  have mk0 : Cond.classLink RL 37 xIO ∈ wsL_close := by decide +kernel
  have mk1 : Cond.classLink RL 13 xIS ∈ wsL_close := by decide +kernel
  refine lv_aload_n hx hb dL_close_0 rfl (lv_at hl 2 rfl) ?_
  refine lv_iconst (v := 0) hx hb dL_close_1 (by decide) ?_
  refine lv_aload_n hx hb dL_close_2 rfl (lv_at hl 0 rfl) ?_
  refine lv_iload_n hx hb dL_close_3 rfl (lv_at hl 1 rfl) ?_
  refine r_thr (r := 3) (As := [.int a1]) (rest := [.int 0, .ref (ad qo)]) X hS (t_X6_close l hE (w := wo o) (ad := ad) (μ := μ) (D := D) (cI := cI) (cG := cG) (cL := cL) (hw o) hst h) (cwV 1 X.1.2.2.2.2 gL_close_X6_close rfl rfl rfl (by decide +kernel) ⟨Nat.le_of_ble_eq_true rfl, Nat.le_of_ble_eq_true rfl⟩) (q0 := q) (ci := 4) rfl ((hw o).1 μ).1 rfl hl.1 rfl (Nat.le_of_ble_eq_true rfl) dL_close_4 ⟨Nat.le_of_ble_eq_true rfl, Nat.le_of_ble_eq_true rfl⟩ [⟨0, 9, 12, 37⟩] ⟨0, 9, 15, 13⟩ [] htab (List.forall_mem_cons.mpr ⟨Or.inr ⟨by decide, _, X.1.2.2.2.2 _ mk0, X.env.2.2.1.2.1⟩, (fun _ h => absurd h List.not_mem_nil)⟩) rfl (by decide) (X.1.2.2.2.2 _ mk1) (va_Nw.use rfl (X.env.2.1 (.castable xIS xIS) (List.mem_of_getElem? (i := 2) rfl))) (fun H locs q9 hS => ?_)
  refine lv_astore_n (lv' := [(3, .ref q9), (0, .ref (ad q)), (1, .int a1), (2, .ref (ad qo))]) hx hb dL_close_15 rfl hl (by decide) rfl (fun ls hl => ?_)
  refine lv_iconst (v := 2) hx hb dL_close_16 (by decide) ?_
  exact r_iretN X hS hr hlk dL_close_17
set_option maxHeartbeats 4000000 in
set_option maxRecDepth 100000 in
theorem o_L_get (l : Launch) {D : va_G} {cI cG cL : ClassId} {A : Nat → Prop} {EN : State → Heap → Prop} {adE : Nat → Nat} (hE : EnOK EN A) {wo : Int64 → Mem → va_W} {ad : Nat → Nat} {q qo : Nat} {a1 : Int32} {o : Int64} {μ : Mem} {r : Int32} (hw : ∀ o, PGAt cI cG adE (wo o) ad q) (ho : OutAt cL wo ad qo) (h : f_X6_get q a1 μ = some r) : Met l yL_get wsL_get (rmk 5 113) (WPre D (tyl cI cG cL) A EN (wo o μ) [.ref (ad q), .int a1, .ref (ad qo)]) (PI D A (wo r.toInt64 μ) 0) 0 0 A := by
  refine met_startW (cc := cL_get) (nL := 4) (ret := some .int) (hh := [(0, 9, 12, 19)]) (own := RL) hE (by decide) rfl rfl (Nat.le_of_ble_eq_true rfl) (fun p e s m args below meth c ls X htab hS hl hr hlk => ?_)
  have hx := X.1.1
  have hb := X.1.2.1
  replace hl : lv_has ls 4 [(0, .ref (ad q)), (1, .int a1), (2, .ref (ad qo))] := hl
  refine lv_aload_n hx hb dL_get_0 rfl (lv_at hl 2 rfl) ?_
  refine lv_iconst (v := 0) hx hb dL_get_1 (by decide) ?_
  refine lv_aload_n hx hb dL_get_2 rfl (lv_at hl 0 rfl) ?_
  refine lv_iload_n hx hb dL_get_3 rfl (lv_at hl 1 rfl) ?_
  refine r_ci hS (r_runV (As := [.int a1]) (rest := [.int 0, .ref (ad qo)]) X hS (c_X6_get l hE (w := wo o) (ad := ad) (μ := μ) (D := D) (cI := cI) (cG := cG) (cL := cL) (hw o) h) (cwV 1 X.1.2.2.2.2 gL_get_X6_get rfl rfl rfl (by decide +kernel) ⟨Nat.le_of_ble_eq_true rfl, Nat.le_of_ble_eq_true rfl⟩) (q0 := q) (ci := 4) rfl ((hw o).1 μ).1 rfl hl.1 rfl (Nat.le_of_ble_eq_true rfl) dL_get_4 ⟨Nat.zero_le _, Nat.zero_le _⟩) (fun H locs hS => ?_)
  refine lv_i2l (v := r.toInt64) hx hb dL_get_7 rfl ?_
  refine r_last X hS ho dL_get_8 (fun H locs hS => ?_)
  refine lv_goto (tgt := 15) hx hb dL_get_9 (by decide) ?_
  refine lv_iconst (v := 0) hx hb dL_get_15 (by decide) ?_
  exact r_iretN X hS hr hlk dL_get_16
set_option maxHeartbeats 4000000 in
set_option maxRecDepth 100000 in
theorem x_L_get_2 (l : Launch) {D : va_G} {cI cG cL : ClassId} {A : Nat → Prop} {tC tS : Nat} {adE adK adV : Nat → Nat} (hE : EnOK (ENV tC tS adE adK adV A) A) {wo : Int64 → Mem → va_W} {ad : Nat → Nat} {q qo : Nat} {a1 : Int32} {o : Int64} {μ : Mem} (hw : ∀ o, PGAt cI cG adE (wo o) ad q) (ho : OutAt cL wo ad qo) (hst : l.stackTraces = false) (h : f_X6_get_t q a1 μ = some 2) : Met l yL_get wsL_get (rmx 8 123) (WPre D (tyl cI cG cL) A (ENV tC tS adE adK adV A) (wo o μ) [.ref (ad q), .int a1, .ref (ad qo)]) (PI D A (wo o μ) 1) 1 6 A := by
  refine met_startW (cc := cL_get) (nL := 4) (ret := some .int) (hh := [(0, 9, 12, 19)]) (own := RL) hE (by decide) rfl rfl (Nat.le_of_ble_eq_true rfl) (fun p e s m args below meth c ls X htab hS hl hr hlk => ?_)
  have hx := X.1.1
  have hb := X.1.2.1
  replace hl : lv_has ls 4 [(0, .ref (ad q)), (1, .int a1), (2, .ref (ad qo))] := hl
  have mk0 : Cond.classLink RL 19 xIA ∈ wsL_get := by decide +kernel
  refine lv_aload_n hx hb dL_get_0 rfl (lv_at hl 2 rfl) ?_
  refine lv_iconst (v := 0) hx hb dL_get_1 (by decide) ?_
  refine lv_aload_n hx hb dL_get_2 rfl (lv_at hl 0 rfl) ?_
  refine lv_iload_n hx hb dL_get_3 rfl (lv_at hl 1 rfl) ?_
  refine r_thr (r := 2) (As := [.int a1]) (rest := [.int 0, .ref (ad qo)]) X hS (t_X6_get l hE (w := wo o) (ad := ad) (μ := μ) (D := D) (cI := cI) (cG := cG) (cL := cL) (hw o) hst h) (cwV 1 X.1.2.2.2.2 gL_get_X6_get rfl rfl rfl (by decide +kernel) ⟨Nat.le_of_ble_eq_true rfl, Nat.le_of_ble_eq_true rfl⟩) (q0 := q) (ci := 4) rfl ((hw o).1 μ).1 rfl hl.1 rfl (Nat.le_of_ble_eq_true rfl) dL_get_4 ⟨Nat.le_of_ble_eq_true rfl, Nat.le_of_ble_eq_true rfl⟩ [] ⟨0, 9, 12, 19⟩ [] htab (fun _ h => absurd h List.not_mem_nil) rfl (by decide) (X.1.2.2.2.2 _ mk0) (va_Nw.use rfl (X.env.2.1 (.castable xIA xIA) (List.mem_of_getElem? (i := 1) rfl))) (fun H locs q9 hS => ?_)
  refine lv_astore_n (lv' := [(3, .ref q9), (0, .ref (ad q)), (1, .int a1), (2, .ref (ad qo))]) hx hb dL_get_12 rfl hl (by decide) rfl (fun ls hl => ?_)
  refine lv_iconst (v := 1) hx hb dL_get_13 (by decide) ?_
  exact r_iretN X hS hr hlk dL_get_14
set_option maxHeartbeats 4000000 in
set_option maxRecDepth 100000 in
theorem o_L_drafted (l : Launch) {D : va_G} {cI cG cL : ClassId} {A : Nat → Prop} {EN : State → Heap → Prop} {adE : Nat → Nat} (hE : EnOK EN A) {wo : Int64 → Mem → va_W} {ad : Nat → Nat} {q qo : Nat} {a1 : Int32} {o : Int64} {μ : Mem} {r : Int32} (hw : ∀ o, PGAt cI cG adE (wo o) ad q) (ho : OutAt cL wo ad qo) (h : f_X6_drafted q a1 μ = some r) : Met l yL_drafted wsL_drafted (rmk 5 113) (WPre D (tyl cI cG cL) A EN (wo o μ) [.ref (ad q), .int a1, .ref (ad qo)]) (PI D A (wo r.toInt64 μ) 0) 0 0 A := by
  refine met_startW (cc := cL_drafted) (nL := 4) (ret := some .int) (hh := [(0, 9, 12, 19), (0, 9, 15, 13)]) (own := RL) hE (by decide) rfl rfl (Nat.le_of_ble_eq_true rfl) (fun p e s m args below meth c ls X htab hS hl hr hlk => ?_)
  have hx := X.1.1
  have hb := X.1.2.1
  replace hl : lv_has ls 4 [(0, .ref (ad q)), (1, .int a1), (2, .ref (ad qo))] := hl
  refine lv_aload_n hx hb dL_drafted_0 rfl (lv_at hl 2 rfl) ?_
  refine lv_iconst (v := 0) hx hb dL_drafted_1 (by decide) ?_
  refine lv_aload_n hx hb dL_drafted_2 rfl (lv_at hl 0 rfl) ?_
  refine lv_iload_n hx hb dL_drafted_3 rfl (lv_at hl 1 rfl) ?_
  refine r_ci hS (r_runV (As := [.int a1]) (rest := [.int 0, .ref (ad qo)]) X hS (c_X6_drafted l hE (w := wo o) (ad := ad) (μ := μ) (D := D) (cI := cI) (cG := cG) (cL := cL) (hw o) h) (cwV 1 X.1.2.2.2.2 gL_drafted_X6_drafted rfl rfl rfl (by decide +kernel) ⟨Nat.le_of_ble_eq_true rfl, Nat.le_of_ble_eq_true rfl⟩) (q0 := q) (ci := 4) rfl ((hw o).1 μ).1 rfl hl.1 rfl (Nat.le_of_ble_eq_true rfl) dL_drafted_4 ⟨Nat.zero_le _, Nat.zero_le _⟩) (fun H locs hS => ?_)
  refine lv_i2l (v := r.toInt64) hx hb dL_drafted_7 rfl ?_
  refine r_last X hS ho dL_drafted_8 (fun H locs hS => ?_)
  refine lv_goto (tgt := 18) hx hb dL_drafted_9 (by decide) ?_
  refine lv_iconst (v := 0) hx hb dL_drafted_18 (by decide) ?_
  exact r_iretN X hS hr hlk dL_drafted_19
set_option maxHeartbeats 4000000 in
set_option maxRecDepth 100000 in
theorem x_L_drafted_2 (l : Launch) {D : va_G} {cI cG cL : ClassId} {A : Nat → Prop} {tC tS : Nat} {adE adK adV : Nat → Nat} (hE : EnOK (ENV tC tS adE adK adV A) A) {wo : Int64 → Mem → va_W} {ad : Nat → Nat} {q qo : Nat} {a1 : Int32} {o : Int64} {μ : Mem} (hw : ∀ o, PGAt cI cG adE (wo o) ad q) (ho : OutAt cL wo ad qo) (hst : l.stackTraces = false) (h : f_X6_drafted_t q a1 μ = some 2) : Met l yL_drafted wsL_drafted (rmx 8 123) (WPre D (tyl cI cG cL) A (ENV tC tS adE adK adV A) (wo o μ) [.ref (ad q), .int a1, .ref (ad qo)]) (PI D A (wo o μ) 1) 1 6 A := by
  refine met_startW (cc := cL_drafted) (nL := 4) (ret := some .int) (hh := [(0, 9, 12, 19), (0, 9, 15, 13)]) (own := RL) hE (by decide) rfl rfl (Nat.le_of_ble_eq_true rfl) (fun p e s m args below meth c ls X htab hS hl hr hlk => ?_)
  have hx := X.1.1
  have hb := X.1.2.1
  replace hl : lv_has ls 4 [(0, .ref (ad q)), (1, .int a1), (2, .ref (ad qo))] := hl
  have mk0 : Cond.classLink RL 19 xIA ∈ wsL_drafted := by decide +kernel
  refine lv_aload_n hx hb dL_drafted_0 rfl (lv_at hl 2 rfl) ?_
  refine lv_iconst (v := 0) hx hb dL_drafted_1 (by decide) ?_
  refine lv_aload_n hx hb dL_drafted_2 rfl (lv_at hl 0 rfl) ?_
  refine lv_iload_n hx hb dL_drafted_3 rfl (lv_at hl 1 rfl) ?_
  refine r_thr (r := 2) (As := [.int a1]) (rest := [.int 0, .ref (ad qo)]) X hS (t_X6_drafted l hE (w := wo o) (ad := ad) (μ := μ) (D := D) (cI := cI) (cG := cG) (cL := cL) (hw o) hst h) (cwV 1 X.1.2.2.2.2 gL_drafted_X6_drafted rfl rfl rfl (by decide +kernel) ⟨Nat.le_of_ble_eq_true rfl, Nat.le_of_ble_eq_true rfl⟩) (q0 := q) (ci := 4) rfl ((hw o).1 μ).1 rfl hl.1 rfl (Nat.le_of_ble_eq_true rfl) dL_drafted_4 ⟨Nat.le_of_ble_eq_true rfl, Nat.le_of_ble_eq_true rfl⟩ [] ⟨0, 9, 12, 19⟩ [⟨0, 9, 15, 13⟩] htab (fun _ h => absurd h List.not_mem_nil) rfl (by decide) (X.1.2.2.2.2 _ mk0) (va_Nw.use rfl (X.env.2.1 (.castable xIA xIA) (List.mem_of_getElem? (i := 1) rfl))) (fun H locs q9 hS => ?_)
  refine lv_astore_n (lv' := [(3, .ref q9), (0, .ref (ad q)), (1, .int a1), (2, .ref (ad qo))]) hx hb dL_drafted_12 rfl hl (by decide) rfl (fun ls hl => ?_)
  refine lv_iconst (v := 1) hx hb dL_drafted_13 (by decide) ?_
  exact r_iretN X hS hr hlk dL_drafted_14
set_option maxHeartbeats 4000000 in
set_option maxRecDepth 100000 in
theorem x_L_drafted_3 (l : Launch) {D : va_G} {cI cG cL : ClassId} {A : Nat → Prop} {tC tS : Nat} {adE adK adV : Nat → Nat} (hE : EnOK (ENV tC tS adE adK adV A) A) {wo : Int64 → Mem → va_W} {ad : Nat → Nat} {q qo : Nat} {a1 : Int32} {o : Int64} {μ : Mem} (hw : ∀ o, PGAt cI cG adE (wo o) ad q) (ho : OutAt cL wo ad qo) (hst : l.stackTraces = false) (h : f_X6_drafted_t q a1 μ = some 3) : Met l yL_drafted wsL_drafted (rmx 8 123) (WPre D (tyl cI cG cL) A (ENV tC tS adE adK adV A) (wo o μ) [.ref (ad q), .int a1, .ref (ad qo)]) (PI D A (wo o μ) 2) 1 6 A := by
  refine met_startW (cc := cL_drafted) (nL := 4) (ret := some .int) (hh := [(0, 9, 12, 19), (0, 9, 15, 13)]) (own := RL) hE (by decide) rfl rfl (Nat.le_of_ble_eq_true rfl) (fun p e s m args below meth c ls X htab hS hl hr hlk => ?_)
  have hx := X.1.1
  have hb := X.1.2.1
  replace hl : lv_has ls 4 [(0, .ref (ad q)), (1, .int a1), (2, .ref (ad qo))] := hl
  have mk0 : Cond.classLink RL 19 xIA ∈ wsL_drafted := by decide +kernel
  have mk1 : Cond.classLink RL 13 xIS ∈ wsL_drafted := by decide +kernel
  refine lv_aload_n hx hb dL_drafted_0 rfl (lv_at hl 2 rfl) ?_
  refine lv_iconst (v := 0) hx hb dL_drafted_1 (by decide) ?_
  refine lv_aload_n hx hb dL_drafted_2 rfl (lv_at hl 0 rfl) ?_
  refine lv_iload_n hx hb dL_drafted_3 rfl (lv_at hl 1 rfl) ?_
  refine r_thr (r := 3) (As := [.int a1]) (rest := [.int 0, .ref (ad qo)]) X hS (t_X6_drafted l hE (w := wo o) (ad := ad) (μ := μ) (D := D) (cI := cI) (cG := cG) (cL := cL) (hw o) hst h) (cwV 1 X.1.2.2.2.2 gL_drafted_X6_drafted rfl rfl rfl (by decide +kernel) ⟨Nat.le_of_ble_eq_true rfl, Nat.le_of_ble_eq_true rfl⟩) (q0 := q) (ci := 4) rfl ((hw o).1 μ).1 rfl hl.1 rfl (Nat.le_of_ble_eq_true rfl) dL_drafted_4 ⟨Nat.le_of_ble_eq_true rfl, Nat.le_of_ble_eq_true rfl⟩ [⟨0, 9, 12, 19⟩] ⟨0, 9, 15, 13⟩ [] htab (List.forall_mem_cons.mpr ⟨Or.inr ⟨by decide, _, X.1.2.2.2.2 _ mk0, X.env.2.2.1.1⟩, (fun _ h => absurd h List.not_mem_nil)⟩) rfl (by decide) (X.1.2.2.2.2 _ mk1) (va_Nw.use rfl (X.env.2.1 (.castable xIS xIS) (List.mem_of_getElem? (i := 2) rfl))) (fun H locs q9 hS => ?_)
  refine lv_astore_n (lv' := [(3, .ref q9), (0, .ref (ad q)), (1, .int a1), (2, .ref (ad qo))]) hx hb dL_drafted_15 rfl hl (by decide) rfl (fun ls hl => ?_)
  refine lv_iconst (v := 2) hx hb dL_drafted_16 (by decide) ?_
  exact r_iretN X hS hr hlk dL_drafted_17
set_option maxHeartbeats 4000000 in
set_option maxRecDepth 100000 in
theorem o_L_read (l : Launch) {D : va_G} {cI cG cL : ClassId} {A : Nat → Prop} {EN : State → Heap → Prop} {adE : Nat → Nat} (hE : EnOK EN A) {wo : Int64 → Mem → va_W} {ad : Nat → Nat} {q qo : Nat} {a1 : Int32} {a2 : Int32} {o : Int64} {μ : Mem} {r : Int32} (hw : ∀ o, PGAt cI cG adE (wo o) ad q) (ho : OutAt cL wo ad qo) (h : f_X6_read q a1 a2 μ = some r) : Met l yL_read wsL_read (rmk 5 115) (WPre D (tyl cI cG cL) A EN (wo o μ) [.ref (ad q), .int a1, .int a2, .ref (ad qo)]) (PI D A (wo r.toInt64 μ) 0) 0 0 A := by
  refine met_startW (cc := cL_read) (nL := 5) (ret := some .int) (hh := [(0, 10, 13, 37), (0, 10, 17, 19), (0, 10, 21, 13)]) (own := RL) hE (by decide) rfl rfl (Nat.le_of_ble_eq_true rfl) (fun p e s m args below meth c ls X htab hS hl hr hlk => ?_)
  have hx := X.1.1
  have hb := X.1.2.1
  replace hl : lv_has ls 5 [(0, .ref (ad q)), (1, .int a1), (2, .int a2), (3, .ref (ad qo))] := hl
  refine lv_aload_n hx hb dL_read_0 rfl (lv_at hl 3 rfl) ?_
  refine lv_iconst (v := 0) hx hb dL_read_1 (by decide) ?_
  refine lv_aload_n hx hb dL_read_2 rfl (lv_at hl 0 rfl) ?_
  refine lv_iload_n hx hb dL_read_3 rfl (lv_at hl 1 rfl) ?_
  refine lv_iload_n hx hb dL_read_4 rfl (lv_at hl 2 rfl) ?_
  refine r_ci hS (r_runV (As := [.int a1, .int a2]) (rest := [.int 0, .ref (ad qo)]) X hS (c_X6_read l hE (w := wo o) (ad := ad) (μ := μ) (D := D) (cI := cI) (cG := cG) (cL := cL) (hw o) h) (cwV 2 X.1.2.2.2.2 gL_read_X6_read rfl rfl rfl (by decide +kernel) ⟨Nat.le_of_ble_eq_true rfl, Nat.le_of_ble_eq_true rfl⟩) (q0 := q) (ci := 4) rfl ((hw o).1 μ).1 rfl hl.1 rfl (Nat.le_of_ble_eq_true rfl) dL_read_5 ⟨Nat.zero_le _, Nat.zero_le _⟩) (fun H locs hS => ?_)
  refine lv_i2l (v := r.toInt64) hx hb dL_read_8 rfl ?_
  refine r_last X hS ho dL_read_9 (fun H locs hS => ?_)
  refine lv_goto (tgt := 25) hx hb dL_read_10 (by decide) ?_
  refine lv_iconst (v := 0) hx hb dL_read_25 (by decide) ?_
  exact r_iretN X hS hr hlk dL_read_26
set_option maxHeartbeats 4000000 in
set_option maxRecDepth 100000 in
theorem x_L_read_1 (l : Launch) {D : va_G} {cI cG cL : ClassId} {A : Nat → Prop} {tC tS : Nat} {adE adK adV : Nat → Nat} (hE : EnOK (ENV tC tS adE adK adV A) A) {wo : Int64 → Mem → va_W} {ad : Nat → Nat} {q qo : Nat} {a1 : Int32} {a2 : Int32} {o : Int64} {μ : Mem} (hw : ∀ o, PGAt cI cG adE (wo o) ad q) (ho : OutAt cL wo ad qo) (hst : l.stackTraces = false) (h : f_X6_read_t q a1 a2 μ = some 1) : Met l yL_read wsL_read (rmx 8 124) (WPre D (tyl cI cG cL) A (ENV tC tS adE adK adV A) (wo o μ) [.ref (ad q), .int a1, .int a2, .ref (ad qo)]) (PI D A (wo o μ) 1) 1 6 A := by
  refine met_startW (cc := cL_read) (nL := 5) (ret := some .int) (hh := [(0, 10, 13, 37), (0, 10, 17, 19), (0, 10, 21, 13)]) (own := RL) hE (by decide) rfl rfl (Nat.le_of_ble_eq_true rfl) (fun p e s m args below meth c ls X htab hS hl hr hlk => ?_)
  have hx := X.1.1
  have hb := X.1.2.1
  replace hl : lv_has ls 5 [(0, .ref (ad q)), (1, .int a1), (2, .int a2), (3, .ref (ad qo))] := hl
  have mk0 : Cond.classLink RL 37 xIO ∈ wsL_read := by decide +kernel
  refine lv_aload_n hx hb dL_read_0 rfl (lv_at hl 3 rfl) ?_
  refine lv_iconst (v := 0) hx hb dL_read_1 (by decide) ?_
  refine lv_aload_n hx hb dL_read_2 rfl (lv_at hl 0 rfl) ?_
  refine lv_iload_n hx hb dL_read_3 rfl (lv_at hl 1 rfl) ?_
  refine lv_iload_n hx hb dL_read_4 rfl (lv_at hl 2 rfl) ?_
  refine r_thr (r := 1) (As := [.int a1, .int a2]) (rest := [.int 0, .ref (ad qo)]) X hS (t_X6_read l hE (w := wo o) (ad := ad) (μ := μ) (D := D) (cI := cI) (cG := cG) (cL := cL) (hw o) hst h) (cwV 2 X.1.2.2.2.2 gL_read_X6_read rfl rfl rfl (by decide +kernel) ⟨Nat.le_of_ble_eq_true rfl, Nat.le_of_ble_eq_true rfl⟩) (q0 := q) (ci := 4) rfl ((hw o).1 μ).1 rfl hl.1 rfl (Nat.le_of_ble_eq_true rfl) dL_read_5 ⟨Nat.le_of_ble_eq_true rfl, Nat.le_of_ble_eq_true rfl⟩ [] ⟨0, 10, 13, 37⟩ [⟨0, 10, 17, 19⟩, ⟨0, 10, 21, 13⟩] htab (fun _ h => absurd h List.not_mem_nil) rfl (by decide) (X.1.2.2.2.2 _ mk0) (va_Nw.use rfl (X.env.2.1 (.castable xIO xIO) (List.mem_of_getElem? (i := 0) rfl))) (fun H locs q9 hS => ?_)
  refine lv_astore (lv' := [(4, .ref q9), (0, .ref (ad q)), (1, .int a1), (2, .int a2), (3, .ref (ad qo))]) hx hb dL_read_13 hl (by decide) rfl (fun ls hl => ?_)
  refine lv_iconst (v := 1) hx hb dL_read_15 (by decide) ?_
  exact r_iretN X hS hr hlk dL_read_16
set_option maxHeartbeats 4000000 in
set_option maxRecDepth 100000 in
theorem x_L_read_2 (l : Launch) {D : va_G} {cI cG cL : ClassId} {A : Nat → Prop} {tC tS : Nat} {adE adK adV : Nat → Nat} (hE : EnOK (ENV tC tS adE adK adV A) A) {wo : Int64 → Mem → va_W} {ad : Nat → Nat} {q qo : Nat} {a1 : Int32} {a2 : Int32} {o : Int64} {μ : Mem} (hw : ∀ o, PGAt cI cG adE (wo o) ad q) (ho : OutAt cL wo ad qo) (hst : l.stackTraces = false) (h : f_X6_read_t q a1 a2 μ = some 2) : Met l yL_read wsL_read (rmx 8 124) (WPre D (tyl cI cG cL) A (ENV tC tS adE adK adV A) (wo o μ) [.ref (ad q), .int a1, .int a2, .ref (ad qo)]) (PI D A (wo o μ) 2) 1 6 A := by
  refine met_startW (cc := cL_read) (nL := 5) (ret := some .int) (hh := [(0, 10, 13, 37), (0, 10, 17, 19), (0, 10, 21, 13)]) (own := RL) hE (by decide) rfl rfl (Nat.le_of_ble_eq_true rfl) (fun p e s m args below meth c ls X htab hS hl hr hlk => ?_)
  have hx := X.1.1
  have hb := X.1.2.1
  replace hl : lv_has ls 5 [(0, .ref (ad q)), (1, .int a1), (2, .int a2), (3, .ref (ad qo))] := hl
  have mk0 : Cond.classLink RL 37 xIO ∈ wsL_read := by decide +kernel
  have mk1 : Cond.classLink RL 19 xIA ∈ wsL_read := by decide +kernel
  refine lv_aload_n hx hb dL_read_0 rfl (lv_at hl 3 rfl) ?_
  refine lv_iconst (v := 0) hx hb dL_read_1 (by decide) ?_
  refine lv_aload_n hx hb dL_read_2 rfl (lv_at hl 0 rfl) ?_
  refine lv_iload_n hx hb dL_read_3 rfl (lv_at hl 1 rfl) ?_
  refine lv_iload_n hx hb dL_read_4 rfl (lv_at hl 2 rfl) ?_
  refine r_thr (r := 2) (As := [.int a1, .int a2]) (rest := [.int 0, .ref (ad qo)]) X hS (t_X6_read l hE (w := wo o) (ad := ad) (μ := μ) (D := D) (cI := cI) (cG := cG) (cL := cL) (hw o) hst h) (cwV 2 X.1.2.2.2.2 gL_read_X6_read rfl rfl rfl (by decide +kernel) ⟨Nat.le_of_ble_eq_true rfl, Nat.le_of_ble_eq_true rfl⟩) (q0 := q) (ci := 4) rfl ((hw o).1 μ).1 rfl hl.1 rfl (Nat.le_of_ble_eq_true rfl) dL_read_5 ⟨Nat.le_of_ble_eq_true rfl, Nat.le_of_ble_eq_true rfl⟩ [⟨0, 10, 13, 37⟩] ⟨0, 10, 17, 19⟩ [⟨0, 10, 21, 13⟩] htab (List.forall_mem_cons.mpr ⟨Or.inr ⟨by decide, _, X.1.2.2.2.2 _ mk0, X.env.2.2.1.2.2⟩, (fun _ h => absurd h List.not_mem_nil)⟩) rfl (by decide) (X.1.2.2.2.2 _ mk1) (va_Nw.use rfl (X.env.2.1 (.castable xIA xIA) (List.mem_of_getElem? (i := 1) rfl))) (fun H locs q9 hS => ?_)
  refine lv_astore (lv' := [(4, .ref q9), (0, .ref (ad q)), (1, .int a1), (2, .int a2), (3, .ref (ad qo))]) hx hb dL_read_17 hl (by decide) rfl (fun ls hl => ?_)
  refine lv_iconst (v := 2) hx hb dL_read_19 (by decide) ?_
  exact r_iretN X hS hr hlk dL_read_20
set_option maxHeartbeats 4000000 in
set_option maxRecDepth 100000 in
theorem x_L_read_3 (l : Launch) {D : va_G} {cI cG cL : ClassId} {A : Nat → Prop} {tC tS : Nat} {adE adK adV : Nat → Nat} (hE : EnOK (ENV tC tS adE adK adV A) A) {wo : Int64 → Mem → va_W} {ad : Nat → Nat} {q qo : Nat} {a1 : Int32} {a2 : Int32} {o : Int64} {μ : Mem} (hw : ∀ o, PGAt cI cG adE (wo o) ad q) (ho : OutAt cL wo ad qo) (hst : l.stackTraces = false) (h : f_X6_read_t q a1 a2 μ = some 3) : Met l yL_read wsL_read (rmx 8 124) (WPre D (tyl cI cG cL) A (ENV tC tS adE adK adV A) (wo o μ) [.ref (ad q), .int a1, .int a2, .ref (ad qo)]) (PI D A (wo o μ) 3) 1 6 A := by
  refine met_startW (cc := cL_read) (nL := 5) (ret := some .int) (hh := [(0, 10, 13, 37), (0, 10, 17, 19), (0, 10, 21, 13)]) (own := RL) hE (by decide) rfl rfl (Nat.le_of_ble_eq_true rfl) (fun p e s m args below meth c ls X htab hS hl hr hlk => ?_)
  have hx := X.1.1
  have hb := X.1.2.1
  replace hl : lv_has ls 5 [(0, .ref (ad q)), (1, .int a1), (2, .int a2), (3, .ref (ad qo))] := hl
  have mk0 : Cond.classLink RL 37 xIO ∈ wsL_read := by decide +kernel
  have mk1 : Cond.classLink RL 19 xIA ∈ wsL_read := by decide +kernel
  have mk2 : Cond.classLink RL 13 xIS ∈ wsL_read := by decide +kernel
  refine lv_aload_n hx hb dL_read_0 rfl (lv_at hl 3 rfl) ?_
  refine lv_iconst (v := 0) hx hb dL_read_1 (by decide) ?_
  refine lv_aload_n hx hb dL_read_2 rfl (lv_at hl 0 rfl) ?_
  refine lv_iload_n hx hb dL_read_3 rfl (lv_at hl 1 rfl) ?_
  refine lv_iload_n hx hb dL_read_4 rfl (lv_at hl 2 rfl) ?_
  refine r_thr (r := 3) (As := [.int a1, .int a2]) (rest := [.int 0, .ref (ad qo)]) X hS (t_X6_read l hE (w := wo o) (ad := ad) (μ := μ) (D := D) (cI := cI) (cG := cG) (cL := cL) (hw o) hst h) (cwV 2 X.1.2.2.2.2 gL_read_X6_read rfl rfl rfl (by decide +kernel) ⟨Nat.le_of_ble_eq_true rfl, Nat.le_of_ble_eq_true rfl⟩) (q0 := q) (ci := 4) rfl ((hw o).1 μ).1 rfl hl.1 rfl (Nat.le_of_ble_eq_true rfl) dL_read_5 ⟨Nat.le_of_ble_eq_true rfl, Nat.le_of_ble_eq_true rfl⟩ [⟨0, 10, 13, 37⟩, ⟨0, 10, 17, 19⟩] ⟨0, 10, 21, 13⟩ [] htab (List.forall_mem_cons.mpr ⟨Or.inr ⟨by decide, _, X.1.2.2.2.2 _ mk0, X.env.2.2.1.2.1⟩, (List.forall_mem_cons.mpr ⟨Or.inr ⟨by decide, _, X.1.2.2.2.2 _ mk1, X.env.2.2.1.1⟩, (fun _ h => absurd h List.not_mem_nil)⟩)⟩) rfl (by decide) (X.1.2.2.2.2 _ mk2) (va_Nw.use rfl (X.env.2.1 (.castable xIS xIS) (List.mem_of_getElem? (i := 2) rfl))) (fun H locs q9 hS => ?_)
  refine lv_astore (lv' := [(4, .ref q9), (0, .ref (ad q)), (1, .int a1), (2, .int a2), (3, .ref (ad qo))]) hx hb dL_read_21 hl (by decide) rfl (fun ls hl => ?_)
  refine lv_iconst (v := 3) hx hb dL_read_23 (by decide) ?_
  exact r_iretN X hS hr hlk dL_read_24
set_option maxHeartbeats 4000000 in
set_option maxRecDepth 100000 in
theorem o_L_entry (l : Launch) {D : va_G} {cI cG cL : ClassId} {A : Nat → Prop} {EN : State → Heap → Prop} {adE : Nat → Nat} (hE : EnOK EN A) {wo : Int64 → Mem → va_W} {ad : Nat → Nat} {q qo : Nat} {a1 : Int32} {a2 : Int32} {o : Int64} {μ : Mem} {r : Int32} (hw : ∀ o, PGAt cI cG adE (wo o) ad q) (ho : OutAt cL wo ad qo) (h : f_X6_entry q a1 a2 μ = some r) : Met l yL_entry wsL_entry (rmk 5 117) (WPre D (tyl cI cG cL) A EN (wo o μ) [.ref (ad q), .int a1, .int a2, .ref (ad qo)]) (PI D A (wo r.toInt64 μ) 0) 0 0 A := by
  refine met_startW (cc := cL_entry) (nL := 5) (ret := some .int) (hh := [(0, 10, 13, 37), (0, 10, 17, 19)]) (own := RL) hE (by decide) rfl rfl (Nat.le_of_ble_eq_true rfl) (fun p e s m args below meth c ls X htab hS hl hr hlk => ?_)
  have hx := X.1.1
  have hb := X.1.2.1
  replace hl : lv_has ls 5 [(0, .ref (ad q)), (1, .int a1), (2, .int a2), (3, .ref (ad qo))] := hl
  refine lv_aload_n hx hb dL_entry_0 rfl (lv_at hl 3 rfl) ?_
  refine lv_iconst (v := 0) hx hb dL_entry_1 (by decide) ?_
  refine lv_aload_n hx hb dL_entry_2 rfl (lv_at hl 0 rfl) ?_
  refine lv_iload_n hx hb dL_entry_3 rfl (lv_at hl 1 rfl) ?_
  refine lv_iload_n hx hb dL_entry_4 rfl (lv_at hl 2 rfl) ?_
  refine r_ci hS (r_runV (As := [.int a1, .int a2]) (rest := [.int 0, .ref (ad qo)]) X hS (c_X6_entry l hE (w := wo o) (ad := ad) (μ := μ) (D := D) (cI := cI) (cG := cG) (cL := cL) (hw o) h) (cwV 2 X.1.2.2.2.2 gL_entry_X6_entry rfl rfl rfl (by decide +kernel) ⟨Nat.le_of_ble_eq_true rfl, Nat.le_of_ble_eq_true rfl⟩) (q0 := q) (ci := 4) rfl ((hw o).1 μ).1 rfl hl.1 rfl (Nat.le_of_ble_eq_true rfl) dL_entry_5 ⟨Nat.zero_le _, Nat.zero_le _⟩) (fun H locs hS => ?_)
  refine lv_i2l (v := r.toInt64) hx hb dL_entry_8 rfl ?_
  refine r_last X hS ho dL_entry_9 (fun H locs hS => ?_)
  refine lv_goto (tgt := 21) hx hb dL_entry_10 (by decide) ?_
  refine lv_iconst (v := 0) hx hb dL_entry_21 (by decide) ?_
  exact r_iretN X hS hr hlk dL_entry_22
set_option maxHeartbeats 4000000 in
set_option maxRecDepth 100000 in
theorem x_L_entry_1 (l : Launch) {D : va_G} {cI cG cL : ClassId} {A : Nat → Prop} {tC tS : Nat} {adE adK adV : Nat → Nat} (hE : EnOK (ENV tC tS adE adK adV A) A) {wo : Int64 → Mem → va_W} {ad : Nat → Nat} {q qo : Nat} {a1 : Int32} {a2 : Int32} {o : Int64} {μ : Mem} (hw : ∀ o, PGAt cI cG adE (wo o) ad q) (ho : OutAt cL wo ad qo) (hst : l.stackTraces = false) (h : f_X6_entry_t q a1 a2 μ = some 1) : Met l yL_entry wsL_entry (rmx 8 124) (WPre D (tyl cI cG cL) A (ENV tC tS adE adK adV A) (wo o μ) [.ref (ad q), .int a1, .int a2, .ref (ad qo)]) (PI D A (wo o μ) 1) 1 6 A := by
  refine met_startW (cc := cL_entry) (nL := 5) (ret := some .int) (hh := [(0, 10, 13, 37), (0, 10, 17, 19)]) (own := RL) hE (by decide) rfl rfl (Nat.le_of_ble_eq_true rfl) (fun p e s m args below meth c ls X htab hS hl hr hlk => ?_)
  have hx := X.1.1
  have hb := X.1.2.1
  replace hl : lv_has ls 5 [(0, .ref (ad q)), (1, .int a1), (2, .int a2), (3, .ref (ad qo))] := hl
  have mk0 : Cond.classLink RL 37 xIO ∈ wsL_entry := by decide +kernel
  refine lv_aload_n hx hb dL_entry_0 rfl (lv_at hl 3 rfl) ?_
  refine lv_iconst (v := 0) hx hb dL_entry_1 (by decide) ?_
  refine lv_aload_n hx hb dL_entry_2 rfl (lv_at hl 0 rfl) ?_
  refine lv_iload_n hx hb dL_entry_3 rfl (lv_at hl 1 rfl) ?_
  refine lv_iload_n hx hb dL_entry_4 rfl (lv_at hl 2 rfl) ?_
  refine r_thr (r := 1) (As := [.int a1, .int a2]) (rest := [.int 0, .ref (ad qo)]) X hS (t_X6_entry l hE (w := wo o) (ad := ad) (μ := μ) (D := D) (cI := cI) (cG := cG) (cL := cL) (hw o) hst h) (cwV 2 X.1.2.2.2.2 gL_entry_X6_entry rfl rfl rfl (by decide +kernel) ⟨Nat.le_of_ble_eq_true rfl, Nat.le_of_ble_eq_true rfl⟩) (q0 := q) (ci := 4) rfl ((hw o).1 μ).1 rfl hl.1 rfl (Nat.le_of_ble_eq_true rfl) dL_entry_5 ⟨Nat.le_of_ble_eq_true rfl, Nat.le_of_ble_eq_true rfl⟩ [] ⟨0, 10, 13, 37⟩ [⟨0, 10, 17, 19⟩] htab (fun _ h => absurd h List.not_mem_nil) rfl (by decide) (X.1.2.2.2.2 _ mk0) (va_Nw.use rfl (X.env.2.1 (.castable xIO xIO) (List.mem_of_getElem? (i := 0) rfl))) (fun H locs q9 hS => ?_)
  refine lv_astore (lv' := [(4, .ref q9), (0, .ref (ad q)), (1, .int a1), (2, .int a2), (3, .ref (ad qo))]) hx hb dL_entry_13 hl (by decide) rfl (fun ls hl => ?_)
  refine lv_iconst (v := 1) hx hb dL_entry_15 (by decide) ?_
  exact r_iretN X hS hr hlk dL_entry_16
set_option maxHeartbeats 4000000 in
set_option maxRecDepth 100000 in
theorem x_L_entry_2 (l : Launch) {D : va_G} {cI cG cL : ClassId} {A : Nat → Prop} {tC tS : Nat} {adE adK adV : Nat → Nat} (hE : EnOK (ENV tC tS adE adK adV A) A) {wo : Int64 → Mem → va_W} {ad : Nat → Nat} {q qo : Nat} {a1 : Int32} {a2 : Int32} {o : Int64} {μ : Mem} (hw : ∀ o, PGAt cI cG adE (wo o) ad q) (ho : OutAt cL wo ad qo) (hst : l.stackTraces = false) (h : f_X6_entry_t q a1 a2 μ = some 2) : Met l yL_entry wsL_entry (rmx 8 124) (WPre D (tyl cI cG cL) A (ENV tC tS adE adK adV A) (wo o μ) [.ref (ad q), .int a1, .int a2, .ref (ad qo)]) (PI D A (wo o μ) 2) 1 6 A := by
  refine met_startW (cc := cL_entry) (nL := 5) (ret := some .int) (hh := [(0, 10, 13, 37), (0, 10, 17, 19)]) (own := RL) hE (by decide) rfl rfl (Nat.le_of_ble_eq_true rfl) (fun p e s m args below meth c ls X htab hS hl hr hlk => ?_)
  have hx := X.1.1
  have hb := X.1.2.1
  replace hl : lv_has ls 5 [(0, .ref (ad q)), (1, .int a1), (2, .int a2), (3, .ref (ad qo))] := hl
  have mk0 : Cond.classLink RL 37 xIO ∈ wsL_entry := by decide +kernel
  have mk1 : Cond.classLink RL 19 xIA ∈ wsL_entry := by decide +kernel
  refine lv_aload_n hx hb dL_entry_0 rfl (lv_at hl 3 rfl) ?_
  refine lv_iconst (v := 0) hx hb dL_entry_1 (by decide) ?_
  refine lv_aload_n hx hb dL_entry_2 rfl (lv_at hl 0 rfl) ?_
  refine lv_iload_n hx hb dL_entry_3 rfl (lv_at hl 1 rfl) ?_
  refine lv_iload_n hx hb dL_entry_4 rfl (lv_at hl 2 rfl) ?_
  refine r_thr (r := 2) (As := [.int a1, .int a2]) (rest := [.int 0, .ref (ad qo)]) X hS (t_X6_entry l hE (w := wo o) (ad := ad) (μ := μ) (D := D) (cI := cI) (cG := cG) (cL := cL) (hw o) hst h) (cwV 2 X.1.2.2.2.2 gL_entry_X6_entry rfl rfl rfl (by decide +kernel) ⟨Nat.le_of_ble_eq_true rfl, Nat.le_of_ble_eq_true rfl⟩) (q0 := q) (ci := 4) rfl ((hw o).1 μ).1 rfl hl.1 rfl (Nat.le_of_ble_eq_true rfl) dL_entry_5 ⟨Nat.le_of_ble_eq_true rfl, Nat.le_of_ble_eq_true rfl⟩ [⟨0, 10, 13, 37⟩] ⟨0, 10, 17, 19⟩ [] htab (List.forall_mem_cons.mpr ⟨Or.inr ⟨by decide, _, X.1.2.2.2.2 _ mk0, X.env.2.2.1.2.2⟩, (fun _ h => absurd h List.not_mem_nil)⟩) rfl (by decide) (X.1.2.2.2.2 _ mk1) (va_Nw.use rfl (X.env.2.1 (.castable xIA xIA) (List.mem_of_getElem? (i := 1) rfl))) (fun H locs q9 hS => ?_)
  refine lv_astore (lv' := [(4, .ref q9), (0, .ref (ad q)), (1, .int a1), (2, .int a2), (3, .ref (ad qo))]) hx hb dL_entry_17 hl (by decide) rfl (fun ls hl => ?_)
  refine lv_iconst (v := 2) hx hb dL_entry_19 (by decide) ?_
  exact r_iretN X hS hr hlk dL_entry_20
set_option maxHeartbeats 4000000 in
set_option maxRecDepth 100000 in
theorem o_L_root (l : Launch) {D : va_G} {cI cG cL : ClassId} {A : Nat → Prop} {EN : State → Heap → Prop} {adE : Nat → Nat} (hE : EnOK EN A) {wo : Int64 → Mem → va_W} {ad : Nat → Nat} {q qo : Nat} {a1 : Int32} {a2 : Int32} {o : Int64} {μ : Mem} {r : Int32} (hw : ∀ o, PGAt cI cG adE (wo o) ad q) (ho : OutAt cL wo ad qo) (h : f_X6_root q a1 a2 μ = some r) : Met l yL_root wsL_root (rmk 3 67) (WPre D (tyl cI cG cL) A EN (wo o μ) [.ref (ad q), .int a1, .int a2, .ref (ad qo)]) (PI D A (wo r.toInt64 μ) 0) 0 0 A := by
  refine met_startW (cc := cL_root) (nL := 5) (ret := some .int) (hh := [(0, 10, 13, 37), (0, 10, 17, 19)]) (own := RL) hE (by decide) rfl rfl (Nat.le_of_ble_eq_true rfl) (fun p e s m args below meth c ls X htab hS hl hr hlk => ?_)
  have hx := X.1.1
  have hb := X.1.2.1
  replace hl : lv_has ls 5 [(0, .ref (ad q)), (1, .int a1), (2, .int a2), (3, .ref (ad qo))] := hl
  refine lv_aload_n hx hb dL_root_0 rfl (lv_at hl 3 rfl) ?_
  refine lv_iconst (v := 0) hx hb dL_root_1 (by decide) ?_
  refine lv_aload_n hx hb dL_root_2 rfl (lv_at hl 0 rfl) ?_
  refine lv_iload_n hx hb dL_root_3 rfl (lv_at hl 1 rfl) ?_
  refine lv_iload_n hx hb dL_root_4 rfl (lv_at hl 2 rfl) ?_
  refine r_ci hS (r_runV (As := [.int a1, .int a2]) (rest := [.int 0, .ref (ad qo)]) X hS (c_X6_root l hE (w := wo o) (ad := ad) (μ := μ) (D := D) (cI := cI) (cG := cG) (cL := cL) (hw o) h) (cwV 2 X.1.2.2.2.2 gL_root_X6_root rfl rfl rfl (by decide +kernel) ⟨Nat.le_of_ble_eq_true rfl, Nat.le_of_ble_eq_true rfl⟩) (q0 := q) (ci := 4) rfl ((hw o).1 μ).1 rfl hl.1 rfl (Nat.le_of_ble_eq_true rfl) dL_root_5 ⟨Nat.zero_le _, Nat.zero_le _⟩) (fun H locs hS => ?_)
  refine lv_i2l (v := r.toInt64) hx hb dL_root_8 rfl ?_
  refine r_last X hS ho dL_root_9 (fun H locs hS => ?_)
  refine lv_goto (tgt := 21) hx hb dL_root_10 (by decide) ?_
  refine lv_iconst (v := 0) hx hb dL_root_21 (by decide) ?_
  exact r_iretN X hS hr hlk dL_root_22
set_option maxHeartbeats 4000000 in
set_option maxRecDepth 100000 in
theorem x_L_root_1 (l : Launch) {D : va_G} {cI cG cL : ClassId} {A : Nat → Prop} {tC tS : Nat} {adE adK adV : Nat → Nat} (hE : EnOK (ENV tC tS adE adK adV A) A) {wo : Int64 → Mem → va_W} {ad : Nat → Nat} {q qo : Nat} {a1 : Int32} {a2 : Int32} {o : Int64} {μ : Mem} (hw : ∀ o, PGAt cI cG adE (wo o) ad q) (ho : OutAt cL wo ad qo) (hst : l.stackTraces = false) (h : f_X6_root_t q a1 a2 μ = some 1) : Met l yL_root wsL_root (rmx 8 124) (WPre D (tyl cI cG cL) A (ENV tC tS adE adK adV A) (wo o μ) [.ref (ad q), .int a1, .int a2, .ref (ad qo)]) (PI D A (wo o μ) 1) 1 6 A := by
  refine met_startW (cc := cL_root) (nL := 5) (ret := some .int) (hh := [(0, 10, 13, 37), (0, 10, 17, 19)]) (own := RL) hE (by decide) rfl rfl (Nat.le_of_ble_eq_true rfl) (fun p e s m args below meth c ls X htab hS hl hr hlk => ?_)
  have hx := X.1.1
  have hb := X.1.2.1
  replace hl : lv_has ls 5 [(0, .ref (ad q)), (1, .int a1), (2, .int a2), (3, .ref (ad qo))] := hl
  have mk0 : Cond.classLink RL 37 xIO ∈ wsL_root := by decide +kernel
  refine lv_aload_n hx hb dL_root_0 rfl (lv_at hl 3 rfl) ?_
  refine lv_iconst (v := 0) hx hb dL_root_1 (by decide) ?_
  refine lv_aload_n hx hb dL_root_2 rfl (lv_at hl 0 rfl) ?_
  refine lv_iload_n hx hb dL_root_3 rfl (lv_at hl 1 rfl) ?_
  refine lv_iload_n hx hb dL_root_4 rfl (lv_at hl 2 rfl) ?_
  refine r_thr (r := 1) (As := [.int a1, .int a2]) (rest := [.int 0, .ref (ad qo)]) X hS (t_X6_root l hE (w := wo o) (ad := ad) (μ := μ) (D := D) (cI := cI) (cG := cG) (cL := cL) (hw o) hst h) (cwV 2 X.1.2.2.2.2 gL_root_X6_root rfl rfl rfl (by decide +kernel) ⟨Nat.le_of_ble_eq_true rfl, Nat.le_of_ble_eq_true rfl⟩) (q0 := q) (ci := 4) rfl ((hw o).1 μ).1 rfl hl.1 rfl (Nat.le_of_ble_eq_true rfl) dL_root_5 ⟨Nat.le_of_ble_eq_true rfl, Nat.le_of_ble_eq_true rfl⟩ [] ⟨0, 10, 13, 37⟩ [⟨0, 10, 17, 19⟩] htab (fun _ h => absurd h List.not_mem_nil) rfl (by decide) (X.1.2.2.2.2 _ mk0) (va_Nw.use rfl (X.env.2.1 (.castable xIO xIO) (List.mem_of_getElem? (i := 0) rfl))) (fun H locs q9 hS => ?_)
  refine lv_astore (lv' := [(4, .ref q9), (0, .ref (ad q)), (1, .int a1), (2, .int a2), (3, .ref (ad qo))]) hx hb dL_root_13 hl (by decide) rfl (fun ls hl => ?_)
  refine lv_iconst (v := 1) hx hb dL_root_15 (by decide) ?_
  exact r_iretN X hS hr hlk dL_root_16
set_option maxHeartbeats 4000000 in
set_option maxRecDepth 100000 in
theorem x_L_root_2 (l : Launch) {D : va_G} {cI cG cL : ClassId} {A : Nat → Prop} {tC tS : Nat} {adE adK adV : Nat → Nat} (hE : EnOK (ENV tC tS adE adK adV A) A) {wo : Int64 → Mem → va_W} {ad : Nat → Nat} {q qo : Nat} {a1 : Int32} {a2 : Int32} {o : Int64} {μ : Mem} (hw : ∀ o, PGAt cI cG adE (wo o) ad q) (ho : OutAt cL wo ad qo) (hst : l.stackTraces = false) (h : f_X6_root_t q a1 a2 μ = some 2) : Met l yL_root wsL_root (rmx 8 124) (WPre D (tyl cI cG cL) A (ENV tC tS adE adK adV A) (wo o μ) [.ref (ad q), .int a1, .int a2, .ref (ad qo)]) (PI D A (wo o μ) 2) 1 6 A := by
  refine met_startW (cc := cL_root) (nL := 5) (ret := some .int) (hh := [(0, 10, 13, 37), (0, 10, 17, 19)]) (own := RL) hE (by decide) rfl rfl (Nat.le_of_ble_eq_true rfl) (fun p e s m args below meth c ls X htab hS hl hr hlk => ?_)
  have hx := X.1.1
  have hb := X.1.2.1
  replace hl : lv_has ls 5 [(0, .ref (ad q)), (1, .int a1), (2, .int a2), (3, .ref (ad qo))] := hl
  have mk0 : Cond.classLink RL 37 xIO ∈ wsL_root := by decide +kernel
  have mk1 : Cond.classLink RL 19 xIA ∈ wsL_root := by decide +kernel
  refine lv_aload_n hx hb dL_root_0 rfl (lv_at hl 3 rfl) ?_
  refine lv_iconst (v := 0) hx hb dL_root_1 (by decide) ?_
  refine lv_aload_n hx hb dL_root_2 rfl (lv_at hl 0 rfl) ?_
  refine lv_iload_n hx hb dL_root_3 rfl (lv_at hl 1 rfl) ?_
  refine lv_iload_n hx hb dL_root_4 rfl (lv_at hl 2 rfl) ?_
  refine r_thr (r := 2) (As := [.int a1, .int a2]) (rest := [.int 0, .ref (ad qo)]) X hS (t_X6_root l hE (w := wo o) (ad := ad) (μ := μ) (D := D) (cI := cI) (cG := cG) (cL := cL) (hw o) hst h) (cwV 2 X.1.2.2.2.2 gL_root_X6_root rfl rfl rfl (by decide +kernel) ⟨Nat.le_of_ble_eq_true rfl, Nat.le_of_ble_eq_true rfl⟩) (q0 := q) (ci := 4) rfl ((hw o).1 μ).1 rfl hl.1 rfl (Nat.le_of_ble_eq_true rfl) dL_root_5 ⟨Nat.le_of_ble_eq_true rfl, Nat.le_of_ble_eq_true rfl⟩ [⟨0, 10, 13, 37⟩] ⟨0, 10, 17, 19⟩ [] htab (List.forall_mem_cons.mpr ⟨Or.inr ⟨by decide, _, X.1.2.2.2.2 _ mk0, X.env.2.2.1.2.2⟩, (fun _ h => absurd h List.not_mem_nil)⟩) rfl (by decide) (X.1.2.2.2.2 _ mk1) (va_Nw.use rfl (X.env.2.1 (.castable xIA xIA) (List.mem_of_getElem? (i := 1) rfl))) (fun H locs q9 hS => ?_)
  refine lv_astore (lv' := [(4, .ref q9), (0, .ref (ad q)), (1, .int a1), (2, .int a2), (3, .ref (ad qo))]) hx hb dL_root_17 hl (by decide) rfl (fun ls hl => ?_)
  refine lv_iconst (v := 2) hx hb dL_root_19 (by decide) ?_
  exact r_iretN X hS hr hlk dL_root_20
set_option maxHeartbeats 4000000 in
set_option maxRecDepth 100000 in
theorem o_L_reader (l : Launch) {D : va_G} {cI cG cL : ClassId} {A : Nat → Prop} {EN : State → Heap → Prop} {adE : Nat → Nat} (hE : EnOK EN A) {wo : Int64 → Mem → va_W} {ad : Nat → Nat} {q qo : Nat} {a1 : Int32} {a2 : Int32} {o : Int64} {μ : Mem} {r : Int32} (hw : ∀ o, PGAt cI cG adE (wo o) ad q) (ho : OutAt cL wo ad qo) (h : f_X6_reader q a1 a2 μ = some r) : Met l yL_reader wsL_reader (rmk 4 91) (WPre D (tyl cI cG cL) A EN (wo o μ) [.ref (ad q), .int a1, .int a2, .ref (ad qo)]) (PI D A (wo r.toInt64 μ) 0) 0 0 A := by
  refine met_startW (cc := cL_reader) (nL := 5) (ret := some .int) (hh := [(0, 10, 13, 37), (0, 10, 17, 19)]) (own := RL) hE (by decide) rfl rfl (Nat.le_of_ble_eq_true rfl) (fun p e s m args below meth c ls X htab hS hl hr hlk => ?_)
  have hx := X.1.1
  have hb := X.1.2.1
  replace hl : lv_has ls 5 [(0, .ref (ad q)), (1, .int a1), (2, .int a2), (3, .ref (ad qo))] := hl
  refine lv_aload_n hx hb dL_reader_0 rfl (lv_at hl 3 rfl) ?_
  refine lv_iconst (v := 0) hx hb dL_reader_1 (by decide) ?_
  refine lv_aload_n hx hb dL_reader_2 rfl (lv_at hl 0 rfl) ?_
  refine lv_iload_n hx hb dL_reader_3 rfl (lv_at hl 1 rfl) ?_
  refine lv_iload_n hx hb dL_reader_4 rfl (lv_at hl 2 rfl) ?_
  refine r_ci hS (r_runV (As := [.int a1, .int a2]) (rest := [.int 0, .ref (ad qo)]) X hS (c_X6_reader l hE (w := wo o) (ad := ad) (μ := μ) (D := D) (cI := cI) (cG := cG) (cL := cL) (hw o) h) (cwV 2 X.1.2.2.2.2 gL_reader_X6_reader rfl rfl rfl (by decide +kernel) ⟨Nat.le_of_ble_eq_true rfl, Nat.le_of_ble_eq_true rfl⟩) (q0 := q) (ci := 4) rfl ((hw o).1 μ).1 rfl hl.1 rfl (Nat.le_of_ble_eq_true rfl) dL_reader_5 ⟨Nat.zero_le _, Nat.zero_le _⟩) (fun H locs hS => ?_)
  refine lv_i2l (v := r.toInt64) hx hb dL_reader_8 rfl ?_
  refine r_last X hS ho dL_reader_9 (fun H locs hS => ?_)
  refine lv_goto (tgt := 21) hx hb dL_reader_10 (by decide) ?_
  refine lv_iconst (v := 0) hx hb dL_reader_21 (by decide) ?_
  exact r_iretN X hS hr hlk dL_reader_22
set_option maxHeartbeats 4000000 in
set_option maxRecDepth 100000 in
theorem x_L_reader_1 (l : Launch) {D : va_G} {cI cG cL : ClassId} {A : Nat → Prop} {tC tS : Nat} {adE adK adV : Nat → Nat} (hE : EnOK (ENV tC tS adE adK adV A) A) {wo : Int64 → Mem → va_W} {ad : Nat → Nat} {q qo : Nat} {a1 : Int32} {a2 : Int32} {o : Int64} {μ : Mem} (hw : ∀ o, PGAt cI cG adE (wo o) ad q) (ho : OutAt cL wo ad qo) (hst : l.stackTraces = false) (h : f_X6_reader_t q a1 a2 μ = some 1) : Met l yL_reader wsL_reader (rmx 8 124) (WPre D (tyl cI cG cL) A (ENV tC tS adE adK adV A) (wo o μ) [.ref (ad q), .int a1, .int a2, .ref (ad qo)]) (PI D A (wo o μ) 1) 1 6 A := by
  refine met_startW (cc := cL_reader) (nL := 5) (ret := some .int) (hh := [(0, 10, 13, 37), (0, 10, 17, 19)]) (own := RL) hE (by decide) rfl rfl (Nat.le_of_ble_eq_true rfl) (fun p e s m args below meth c ls X htab hS hl hr hlk => ?_)
  have hx := X.1.1
  have hb := X.1.2.1
  replace hl : lv_has ls 5 [(0, .ref (ad q)), (1, .int a1), (2, .int a2), (3, .ref (ad qo))] := hl
  have mk0 : Cond.classLink RL 37 xIO ∈ wsL_reader := by decide +kernel
  refine lv_aload_n hx hb dL_reader_0 rfl (lv_at hl 3 rfl) ?_
  refine lv_iconst (v := 0) hx hb dL_reader_1 (by decide) ?_
  refine lv_aload_n hx hb dL_reader_2 rfl (lv_at hl 0 rfl) ?_
  refine lv_iload_n hx hb dL_reader_3 rfl (lv_at hl 1 rfl) ?_
  refine lv_iload_n hx hb dL_reader_4 rfl (lv_at hl 2 rfl) ?_
  refine r_thr (r := 1) (As := [.int a1, .int a2]) (rest := [.int 0, .ref (ad qo)]) X hS (t_X6_reader l hE (w := wo o) (ad := ad) (μ := μ) (D := D) (cI := cI) (cG := cG) (cL := cL) (hw o) hst h) (cwV 2 X.1.2.2.2.2 gL_reader_X6_reader rfl rfl rfl (by decide +kernel) ⟨Nat.le_of_ble_eq_true rfl, Nat.le_of_ble_eq_true rfl⟩) (q0 := q) (ci := 4) rfl ((hw o).1 μ).1 rfl hl.1 rfl (Nat.le_of_ble_eq_true rfl) dL_reader_5 ⟨Nat.le_of_ble_eq_true rfl, Nat.le_of_ble_eq_true rfl⟩ [] ⟨0, 10, 13, 37⟩ [⟨0, 10, 17, 19⟩] htab (fun _ h => absurd h List.not_mem_nil) rfl (by decide) (X.1.2.2.2.2 _ mk0) (va_Nw.use rfl (X.env.2.1 (.castable xIO xIO) (List.mem_of_getElem? (i := 0) rfl))) (fun H locs q9 hS => ?_)
  refine lv_astore (lv' := [(4, .ref q9), (0, .ref (ad q)), (1, .int a1), (2, .int a2), (3, .ref (ad qo))]) hx hb dL_reader_13 hl (by decide) rfl (fun ls hl => ?_)
  refine lv_iconst (v := 1) hx hb dL_reader_15 (by decide) ?_
  exact r_iretN X hS hr hlk dL_reader_16
set_option maxHeartbeats 4000000 in
set_option maxRecDepth 100000 in
theorem x_L_reader_2 (l : Launch) {D : va_G} {cI cG cL : ClassId} {A : Nat → Prop} {tC tS : Nat} {adE adK adV : Nat → Nat} (hE : EnOK (ENV tC tS adE adK adV A) A) {wo : Int64 → Mem → va_W} {ad : Nat → Nat} {q qo : Nat} {a1 : Int32} {a2 : Int32} {o : Int64} {μ : Mem} (hw : ∀ o, PGAt cI cG adE (wo o) ad q) (ho : OutAt cL wo ad qo) (hst : l.stackTraces = false) (h : f_X6_reader_t q a1 a2 μ = some 2) : Met l yL_reader wsL_reader (rmx 8 124) (WPre D (tyl cI cG cL) A (ENV tC tS adE adK adV A) (wo o μ) [.ref (ad q), .int a1, .int a2, .ref (ad qo)]) (PI D A (wo o μ) 2) 1 6 A := by
  refine met_startW (cc := cL_reader) (nL := 5) (ret := some .int) (hh := [(0, 10, 13, 37), (0, 10, 17, 19)]) (own := RL) hE (by decide) rfl rfl (Nat.le_of_ble_eq_true rfl) (fun p e s m args below meth c ls X htab hS hl hr hlk => ?_)
  have hx := X.1.1
  have hb := X.1.2.1
  replace hl : lv_has ls 5 [(0, .ref (ad q)), (1, .int a1), (2, .int a2), (3, .ref (ad qo))] := hl
  have mk0 : Cond.classLink RL 37 xIO ∈ wsL_reader := by decide +kernel
  have mk1 : Cond.classLink RL 19 xIA ∈ wsL_reader := by decide +kernel
  refine lv_aload_n hx hb dL_reader_0 rfl (lv_at hl 3 rfl) ?_
  refine lv_iconst (v := 0) hx hb dL_reader_1 (by decide) ?_
  refine lv_aload_n hx hb dL_reader_2 rfl (lv_at hl 0 rfl) ?_
  refine lv_iload_n hx hb dL_reader_3 rfl (lv_at hl 1 rfl) ?_
  refine lv_iload_n hx hb dL_reader_4 rfl (lv_at hl 2 rfl) ?_
  refine r_thr (r := 2) (As := [.int a1, .int a2]) (rest := [.int 0, .ref (ad qo)]) X hS (t_X6_reader l hE (w := wo o) (ad := ad) (μ := μ) (D := D) (cI := cI) (cG := cG) (cL := cL) (hw o) hst h) (cwV 2 X.1.2.2.2.2 gL_reader_X6_reader rfl rfl rfl (by decide +kernel) ⟨Nat.le_of_ble_eq_true rfl, Nat.le_of_ble_eq_true rfl⟩) (q0 := q) (ci := 4) rfl ((hw o).1 μ).1 rfl hl.1 rfl (Nat.le_of_ble_eq_true rfl) dL_reader_5 ⟨Nat.le_of_ble_eq_true rfl, Nat.le_of_ble_eq_true rfl⟩ [⟨0, 10, 13, 37⟩] ⟨0, 10, 17, 19⟩ [] htab (List.forall_mem_cons.mpr ⟨Or.inr ⟨by decide, _, X.1.2.2.2.2 _ mk0, X.env.2.2.1.2.2⟩, (fun _ h => absurd h List.not_mem_nil)⟩) rfl (by decide) (X.1.2.2.2.2 _ mk1) (va_Nw.use rfl (X.env.2.1 (.castable xIA xIA) (List.mem_of_getElem? (i := 1) rfl))) (fun H locs q9 hS => ?_)
  refine lv_astore (lv' := [(4, .ref q9), (0, .ref (ad q)), (1, .int a1), (2, .int a2), (3, .ref (ad qo))]) hx hb dL_reader_17 hl (by decide) rfl (fun ls hl => ?_)
  refine lv_iconst (v := 2) hx hb dL_reader_19 (by decide) ?_
  exact r_iretN X hS hr hlk dL_reader_20
set_option maxHeartbeats 4000000 in
set_option maxRecDepth 100000 in
theorem o_L_bed (l : Launch) {D : va_G} {cI cG cL : ClassId} {A : Nat → Prop} {EN : State → Heap → Prop} {adE : Nat → Nat} (hE : EnOK EN A) {wo : Int64 → Mem → va_W} {ad : Nat → Nat} {q qo : Nat} {a1 : Int32} {a2 : Int32} {o : Int64} {μ : Mem} {r : Int32} (hw : ∀ o, PGAt cI cG adE (wo o) ad q) (ho : OutAt cL wo ad qo) (h : f_X6_bed q a1 a2 μ = some r) : Met l yL_bed wsL_bed (rmk 5 108) (WPre D (tyl cI cG cL) A EN (wo o μ) [.ref (ad q), .int a1, .int a2, .ref (ad qo)]) (PI D A (wo r.toInt64 μ) 0) 0 0 A := by
  refine met_startW (cc := cL_bed) (nL := 5) (ret := some .int) (hh := [(0, 10, 13, 37), (0, 10, 17, 19)]) (own := RL) hE (by decide) rfl rfl (Nat.le_of_ble_eq_true rfl) (fun p e s m args below meth c ls X htab hS hl hr hlk => ?_)
  have hx := X.1.1
  have hb := X.1.2.1
  replace hl : lv_has ls 5 [(0, .ref (ad q)), (1, .int a1), (2, .int a2), (3, .ref (ad qo))] := hl
  refine lv_aload_n hx hb dL_bed_0 rfl (lv_at hl 3 rfl) ?_
  refine lv_iconst (v := 0) hx hb dL_bed_1 (by decide) ?_
  refine lv_aload_n hx hb dL_bed_2 rfl (lv_at hl 0 rfl) ?_
  refine lv_iload_n hx hb dL_bed_3 rfl (lv_at hl 1 rfl) ?_
  refine lv_iload_n hx hb dL_bed_4 rfl (lv_at hl 2 rfl) ?_
  refine r_ci hS (r_runV (As := [.int a1, .int a2]) (rest := [.int 0, .ref (ad qo)]) X hS (c_X6_bed l hE (w := wo o) (ad := ad) (μ := μ) (D := D) (cI := cI) (cG := cG) (cL := cL) (hw o) h) (cwV 2 X.1.2.2.2.2 gL_bed_X6_bed rfl rfl rfl (by decide +kernel) ⟨Nat.le_of_ble_eq_true rfl, Nat.le_of_ble_eq_true rfl⟩) (q0 := q) (ci := 4) rfl ((hw o).1 μ).1 rfl hl.1 rfl (Nat.le_of_ble_eq_true rfl) dL_bed_5 ⟨Nat.zero_le _, Nat.zero_le _⟩) (fun H locs hS => ?_)
  refine lv_i2l (v := r.toInt64) hx hb dL_bed_8 rfl ?_
  refine r_last X hS ho dL_bed_9 (fun H locs hS => ?_)
  refine lv_goto (tgt := 21) hx hb dL_bed_10 (by decide) ?_
  refine lv_iconst (v := 0) hx hb dL_bed_21 (by decide) ?_
  exact r_iretN X hS hr hlk dL_bed_22
set_option maxHeartbeats 4000000 in
set_option maxRecDepth 100000 in
theorem x_L_bed_1 (l : Launch) {D : va_G} {cI cG cL : ClassId} {A : Nat → Prop} {tC tS : Nat} {adE adK adV : Nat → Nat} (hE : EnOK (ENV tC tS adE adK adV A) A) {wo : Int64 → Mem → va_W} {ad : Nat → Nat} {q qo : Nat} {a1 : Int32} {a2 : Int32} {o : Int64} {μ : Mem} (hw : ∀ o, PGAt cI cG adE (wo o) ad q) (ho : OutAt cL wo ad qo) (hst : l.stackTraces = false) (h : f_X6_bed_t q a1 a2 μ = some 1) : Met l yL_bed wsL_bed (rmx 8 124) (WPre D (tyl cI cG cL) A (ENV tC tS adE adK adV A) (wo o μ) [.ref (ad q), .int a1, .int a2, .ref (ad qo)]) (PI D A (wo o μ) 1) 1 6 A := by
  refine met_startW (cc := cL_bed) (nL := 5) (ret := some .int) (hh := [(0, 10, 13, 37), (0, 10, 17, 19)]) (own := RL) hE (by decide) rfl rfl (Nat.le_of_ble_eq_true rfl) (fun p e s m args below meth c ls X htab hS hl hr hlk => ?_)
  have hx := X.1.1
  have hb := X.1.2.1
  replace hl : lv_has ls 5 [(0, .ref (ad q)), (1, .int a1), (2, .int a2), (3, .ref (ad qo))] := hl
  have mk0 : Cond.classLink RL 37 xIO ∈ wsL_bed := by decide +kernel
  refine lv_aload_n hx hb dL_bed_0 rfl (lv_at hl 3 rfl) ?_
  refine lv_iconst (v := 0) hx hb dL_bed_1 (by decide) ?_
  refine lv_aload_n hx hb dL_bed_2 rfl (lv_at hl 0 rfl) ?_
  refine lv_iload_n hx hb dL_bed_3 rfl (lv_at hl 1 rfl) ?_
  refine lv_iload_n hx hb dL_bed_4 rfl (lv_at hl 2 rfl) ?_
  refine r_thr (r := 1) (As := [.int a1, .int a2]) (rest := [.int 0, .ref (ad qo)]) X hS (t_X6_bed l hE (w := wo o) (ad := ad) (μ := μ) (D := D) (cI := cI) (cG := cG) (cL := cL) (hw o) hst h) (cwV 2 X.1.2.2.2.2 gL_bed_X6_bed rfl rfl rfl (by decide +kernel) ⟨Nat.le_of_ble_eq_true rfl, Nat.le_of_ble_eq_true rfl⟩) (q0 := q) (ci := 4) rfl ((hw o).1 μ).1 rfl hl.1 rfl (Nat.le_of_ble_eq_true rfl) dL_bed_5 ⟨Nat.le_of_ble_eq_true rfl, Nat.le_of_ble_eq_true rfl⟩ [] ⟨0, 10, 13, 37⟩ [⟨0, 10, 17, 19⟩] htab (fun _ h => absurd h List.not_mem_nil) rfl (by decide) (X.1.2.2.2.2 _ mk0) (va_Nw.use rfl (X.env.2.1 (.castable xIO xIO) (List.mem_of_getElem? (i := 0) rfl))) (fun H locs q9 hS => ?_)
  refine lv_astore (lv' := [(4, .ref q9), (0, .ref (ad q)), (1, .int a1), (2, .int a2), (3, .ref (ad qo))]) hx hb dL_bed_13 hl (by decide) rfl (fun ls hl => ?_)
  refine lv_iconst (v := 1) hx hb dL_bed_15 (by decide) ?_
  exact r_iretN X hS hr hlk dL_bed_16
set_option maxHeartbeats 4000000 in
set_option maxRecDepth 100000 in
theorem x_L_bed_2 (l : Launch) {D : va_G} {cI cG cL : ClassId} {A : Nat → Prop} {tC tS : Nat} {adE adK adV : Nat → Nat} (hE : EnOK (ENV tC tS adE adK adV A) A) {wo : Int64 → Mem → va_W} {ad : Nat → Nat} {q qo : Nat} {a1 : Int32} {a2 : Int32} {o : Int64} {μ : Mem} (hw : ∀ o, PGAt cI cG adE (wo o) ad q) (ho : OutAt cL wo ad qo) (hst : l.stackTraces = false) (h : f_X6_bed_t q a1 a2 μ = some 2) : Met l yL_bed wsL_bed (rmx 8 124) (WPre D (tyl cI cG cL) A (ENV tC tS adE adK adV A) (wo o μ) [.ref (ad q), .int a1, .int a2, .ref (ad qo)]) (PI D A (wo o μ) 2) 1 6 A := by
  refine met_startW (cc := cL_bed) (nL := 5) (ret := some .int) (hh := [(0, 10, 13, 37), (0, 10, 17, 19)]) (own := RL) hE (by decide) rfl rfl (Nat.le_of_ble_eq_true rfl) (fun p e s m args below meth c ls X htab hS hl hr hlk => ?_)
  have hx := X.1.1
  have hb := X.1.2.1
  replace hl : lv_has ls 5 [(0, .ref (ad q)), (1, .int a1), (2, .int a2), (3, .ref (ad qo))] := hl
  have mk0 : Cond.classLink RL 37 xIO ∈ wsL_bed := by decide +kernel
  have mk1 : Cond.classLink RL 19 xIA ∈ wsL_bed := by decide +kernel
  refine lv_aload_n hx hb dL_bed_0 rfl (lv_at hl 3 rfl) ?_
  refine lv_iconst (v := 0) hx hb dL_bed_1 (by decide) ?_
  refine lv_aload_n hx hb dL_bed_2 rfl (lv_at hl 0 rfl) ?_
  refine lv_iload_n hx hb dL_bed_3 rfl (lv_at hl 1 rfl) ?_
  refine lv_iload_n hx hb dL_bed_4 rfl (lv_at hl 2 rfl) ?_
  refine r_thr (r := 2) (As := [.int a1, .int a2]) (rest := [.int 0, .ref (ad qo)]) X hS (t_X6_bed l hE (w := wo o) (ad := ad) (μ := μ) (D := D) (cI := cI) (cG := cG) (cL := cL) (hw o) hst h) (cwV 2 X.1.2.2.2.2 gL_bed_X6_bed rfl rfl rfl (by decide +kernel) ⟨Nat.le_of_ble_eq_true rfl, Nat.le_of_ble_eq_true rfl⟩) (q0 := q) (ci := 4) rfl ((hw o).1 μ).1 rfl hl.1 rfl (Nat.le_of_ble_eq_true rfl) dL_bed_5 ⟨Nat.le_of_ble_eq_true rfl, Nat.le_of_ble_eq_true rfl⟩ [⟨0, 10, 13, 37⟩] ⟨0, 10, 17, 19⟩ [] htab (List.forall_mem_cons.mpr ⟨Or.inr ⟨by decide, _, X.1.2.2.2.2 _ mk0, X.env.2.2.1.2.2⟩, (fun _ h => absurd h List.not_mem_nil)⟩) rfl (by decide) (X.1.2.2.2.2 _ mk1) (va_Nw.use rfl (X.env.2.1 (.castable xIA xIA) (List.mem_of_getElem? (i := 1) rfl))) (fun H locs q9 hS => ?_)
  refine lv_astore (lv' := [(4, .ref q9), (0, .ref (ad q)), (1, .int a1), (2, .int a2), (3, .ref (ad qo))]) hx hb dL_bed_17 hl (by decide) rfl (fun ls hl => ?_)
  refine lv_iconst (v := 2) hx hb dL_bed_19 (by decide) ?_
  exact r_iretN X hS hr hlk dL_bed_20
set_option maxHeartbeats 4000000 in
set_option maxRecDepth 100000 in
theorem o_L_whole (l : Launch) {D : va_G} {cI cG cL : ClassId} {A : Nat → Prop} {EN : State → Heap → Prop} {adE : Nat → Nat} (hE : EnOK EN A) {wo : Int64 → Mem → va_W} {ad : Nat → Nat} {q qo : Nat} {a1 : Int32} {o : Int64} {μ : Mem} {r : Int32} (hw : ∀ o, PGAt cI cG adE (wo o) ad q) (ho : OutAt cL wo ad qo) (h : f_X6_whole q a1 μ = some r) : Met l yL_whole wsL_whole (rmk 5 113) (WPre D (tyl cI cG cL) A EN (wo o μ) [.ref (ad q), .int a1, .ref (ad qo)]) (PI D A (wo r.toInt64 μ) 0) 0 0 A := by
  refine met_startW (cc := cL_whole) (nL := 4) (ret := some .int) (hh := [(0, 9, 12, 19)]) (own := RL) hE (by decide) rfl rfl (Nat.le_of_ble_eq_true rfl) (fun p e s m args below meth c ls X htab hS hl hr hlk => ?_)
  have hx := X.1.1
  have hb := X.1.2.1
  replace hl : lv_has ls 4 [(0, .ref (ad q)), (1, .int a1), (2, .ref (ad qo))] := hl
  refine lv_aload_n hx hb dL_whole_0 rfl (lv_at hl 2 rfl) ?_
  refine lv_iconst (v := 0) hx hb dL_whole_1 (by decide) ?_
  refine lv_aload_n hx hb dL_whole_2 rfl (lv_at hl 0 rfl) ?_
  refine lv_iload_n hx hb dL_whole_3 rfl (lv_at hl 1 rfl) ?_
  refine r_ci hS (r_runV (As := [.int a1]) (rest := [.int 0, .ref (ad qo)]) X hS (c_X6_whole l hE (w := wo o) (ad := ad) (μ := μ) (D := D) (cI := cI) (cG := cG) (cL := cL) (hw o) h) (cwV 1 X.1.2.2.2.2 gL_whole_X6_whole rfl rfl rfl (by decide +kernel) ⟨Nat.le_of_ble_eq_true rfl, Nat.le_of_ble_eq_true rfl⟩) (q0 := q) (ci := 4) rfl ((hw o).1 μ).1 rfl hl.1 rfl (Nat.le_of_ble_eq_true rfl) dL_whole_4 ⟨Nat.zero_le _, Nat.zero_le _⟩) (fun H locs hS => ?_)
  refine lv_i2l (v := r.toInt64) hx hb dL_whole_7 rfl ?_
  refine r_last X hS ho dL_whole_8 (fun H locs hS => ?_)
  refine lv_goto (tgt := 15) hx hb dL_whole_9 (by decide) ?_
  refine lv_iconst (v := 0) hx hb dL_whole_15 (by decide) ?_
  exact r_iretN X hS hr hlk dL_whole_16
set_option maxHeartbeats 4000000 in
set_option maxRecDepth 100000 in
theorem x_L_whole_2 (l : Launch) {D : va_G} {cI cG cL : ClassId} {A : Nat → Prop} {tC tS : Nat} {adE adK adV : Nat → Nat} (hE : EnOK (ENV tC tS adE adK adV A) A) {wo : Int64 → Mem → va_W} {ad : Nat → Nat} {q qo : Nat} {a1 : Int32} {o : Int64} {μ : Mem} (hw : ∀ o, PGAt cI cG adE (wo o) ad q) (ho : OutAt cL wo ad qo) (hst : l.stackTraces = false) (h : f_X6_whole_t q a1 μ = some 2) : Met l yL_whole wsL_whole (rmx 8 123) (WPre D (tyl cI cG cL) A (ENV tC tS adE adK adV A) (wo o μ) [.ref (ad q), .int a1, .ref (ad qo)]) (PI D A (wo o μ) 1) 1 6 A := by
  refine met_startW (cc := cL_whole) (nL := 4) (ret := some .int) (hh := [(0, 9, 12, 19)]) (own := RL) hE (by decide) rfl rfl (Nat.le_of_ble_eq_true rfl) (fun p e s m args below meth c ls X htab hS hl hr hlk => ?_)
  have hx := X.1.1
  have hb := X.1.2.1
  replace hl : lv_has ls 4 [(0, .ref (ad q)), (1, .int a1), (2, .ref (ad qo))] := hl
  have mk0 : Cond.classLink RL 19 xIA ∈ wsL_whole := by decide +kernel
  refine lv_aload_n hx hb dL_whole_0 rfl (lv_at hl 2 rfl) ?_
  refine lv_iconst (v := 0) hx hb dL_whole_1 (by decide) ?_
  refine lv_aload_n hx hb dL_whole_2 rfl (lv_at hl 0 rfl) ?_
  refine lv_iload_n hx hb dL_whole_3 rfl (lv_at hl 1 rfl) ?_
  refine r_thr (r := 2) (As := [.int a1]) (rest := [.int 0, .ref (ad qo)]) X hS (t_X6_whole l hE (w := wo o) (ad := ad) (μ := μ) (D := D) (cI := cI) (cG := cG) (cL := cL) (hw o) hst h) (cwV 1 X.1.2.2.2.2 gL_whole_X6_whole rfl rfl rfl (by decide +kernel) ⟨Nat.le_of_ble_eq_true rfl, Nat.le_of_ble_eq_true rfl⟩) (q0 := q) (ci := 4) rfl ((hw o).1 μ).1 rfl hl.1 rfl (Nat.le_of_ble_eq_true rfl) dL_whole_4 ⟨Nat.le_of_ble_eq_true rfl, Nat.le_of_ble_eq_true rfl⟩ [] ⟨0, 9, 12, 19⟩ [] htab (fun _ h => absurd h List.not_mem_nil) rfl (by decide) (X.1.2.2.2.2 _ mk0) (va_Nw.use rfl (X.env.2.1 (.castable xIA xIA) (List.mem_of_getElem? (i := 1) rfl))) (fun H locs q9 hS => ?_)
  refine lv_astore_n (lv' := [(3, .ref q9), (0, .ref (ad q)), (1, .int a1), (2, .ref (ad qo))]) hx hb dL_whole_12 rfl hl (by decide) rfl (fun ls hl => ?_)
  refine lv_iconst (v := 1) hx hb dL_whole_13 (by decide) ?_
  exact r_iretN X hS hr hlk dL_whole_14
set_option maxHeartbeats 4000000 in
set_option maxRecDepth 100000 in
theorem o_L_bedsFor (l : Launch) {D : va_G} {cI cG cL : ClassId} {A : Nat → Prop} {EN : State → Heap → Prop} {adE : Nat → Nat} (hE : EnOK EN A) {wo : Int64 → Mem → va_W} {ad : Nat → Nat} {q qo : Nat} {a1 : Int32} {o : Int64} {μ : Mem} {r : Int32} (hw : ∀ o, PGAt cI cG adE (wo o) ad q) (ho : OutAt cL wo ad qo) (h : f_X6_bedsFor q a1 μ = some r) : Met l yL_bedsFor wsL_bedsFor (rmk 4 93) (WPre D (tyl cI cG cL) A EN (wo o μ) [.ref (ad q), .int a1, .ref (ad qo)]) (PI D A (wo r.toInt64 μ) 0) 0 0 A := by
  refine met_startW (cc := cL_bedsFor) (nL := 4) (ret := some .int) (hh := [(0, 9, 12, 19), (0, 9, 15, 13)]) (own := RL) hE (by decide) rfl rfl (Nat.le_of_ble_eq_true rfl) (fun p e s m args below meth c ls X htab hS hl hr hlk => ?_)
  have hx := X.1.1
  have hb := X.1.2.1
  replace hl : lv_has ls 4 [(0, .ref (ad q)), (1, .int a1), (2, .ref (ad qo))] := hl
  refine lv_aload_n hx hb dL_bedsFor_0 rfl (lv_at hl 2 rfl) ?_
  refine lv_iconst (v := 0) hx hb dL_bedsFor_1 (by decide) ?_
  refine lv_aload_n hx hb dL_bedsFor_2 rfl (lv_at hl 0 rfl) ?_
  refine lv_iload_n hx hb dL_bedsFor_3 rfl (lv_at hl 1 rfl) ?_
  refine r_ci hS (r_runV (As := [.int a1]) (rest := [.int 0, .ref (ad qo)]) X hS (c_X6_bedsFor l hE (w := wo o) (ad := ad) (μ := μ) (D := D) (cI := cI) (cG := cG) (cL := cL) (hw o) h) (cwV 1 X.1.2.2.2.2 gL_bedsFor_X6_bedsFor rfl rfl rfl (by decide +kernel) ⟨Nat.le_of_ble_eq_true rfl, Nat.le_of_ble_eq_true rfl⟩) (q0 := q) (ci := 4) rfl ((hw o).1 μ).1 rfl hl.1 rfl (Nat.le_of_ble_eq_true rfl) dL_bedsFor_4 ⟨Nat.zero_le _, Nat.zero_le _⟩) (fun H locs hS => ?_)
  refine lv_i2l (v := r.toInt64) hx hb dL_bedsFor_7 rfl ?_
  refine r_last X hS ho dL_bedsFor_8 (fun H locs hS => ?_)
  refine lv_goto (tgt := 18) hx hb dL_bedsFor_9 (by decide) ?_
  refine lv_iconst (v := 0) hx hb dL_bedsFor_18 (by decide) ?_
  exact r_iretN X hS hr hlk dL_bedsFor_19
set_option maxHeartbeats 4000000 in
set_option maxRecDepth 100000 in
theorem x_L_bedsFor_2 (l : Launch) {D : va_G} {cI cG cL : ClassId} {A : Nat → Prop} {tC tS : Nat} {adE adK adV : Nat → Nat} (hE : EnOK (ENV tC tS adE adK adV A) A) {wo : Int64 → Mem → va_W} {ad : Nat → Nat} {q qo : Nat} {a1 : Int32} {o : Int64} {μ : Mem} (hw : ∀ o, PGAt cI cG adE (wo o) ad q) (ho : OutAt cL wo ad qo) (hst : l.stackTraces = false) (h : f_X6_bedsFor_t q a1 μ = some 2) : Met l yL_bedsFor wsL_bedsFor (rmx 8 123) (WPre D (tyl cI cG cL) A (ENV tC tS adE adK adV A) (wo o μ) [.ref (ad q), .int a1, .ref (ad qo)]) (PI D A (wo o μ) 1) 1 6 A := by
  refine met_startW (cc := cL_bedsFor) (nL := 4) (ret := some .int) (hh := [(0, 9, 12, 19), (0, 9, 15, 13)]) (own := RL) hE (by decide) rfl rfl (Nat.le_of_ble_eq_true rfl) (fun p e s m args below meth c ls X htab hS hl hr hlk => ?_)
  have hx := X.1.1
  have hb := X.1.2.1
  replace hl : lv_has ls 4 [(0, .ref (ad q)), (1, .int a1), (2, .ref (ad qo))] := hl
  have mk0 : Cond.classLink RL 19 xIA ∈ wsL_bedsFor := by decide +kernel
  refine lv_aload_n hx hb dL_bedsFor_0 rfl (lv_at hl 2 rfl) ?_
  refine lv_iconst (v := 0) hx hb dL_bedsFor_1 (by decide) ?_
  refine lv_aload_n hx hb dL_bedsFor_2 rfl (lv_at hl 0 rfl) ?_
  refine lv_iload_n hx hb dL_bedsFor_3 rfl (lv_at hl 1 rfl) ?_
  refine r_thr (r := 2) (As := [.int a1]) (rest := [.int 0, .ref (ad qo)]) X hS (t_X6_bedsFor l hE (w := wo o) (ad := ad) (μ := μ) (D := D) (cI := cI) (cG := cG) (cL := cL) (hw o) hst h) (cwV 1 X.1.2.2.2.2 gL_bedsFor_X6_bedsFor rfl rfl rfl (by decide +kernel) ⟨Nat.le_of_ble_eq_true rfl, Nat.le_of_ble_eq_true rfl⟩) (q0 := q) (ci := 4) rfl ((hw o).1 μ).1 rfl hl.1 rfl (Nat.le_of_ble_eq_true rfl) dL_bedsFor_4 ⟨Nat.le_of_ble_eq_true rfl, Nat.le_of_ble_eq_true rfl⟩ [] ⟨0, 9, 12, 19⟩ [⟨0, 9, 15, 13⟩] htab (fun _ h => absurd h List.not_mem_nil) rfl (by decide) (X.1.2.2.2.2 _ mk0) (va_Nw.use rfl (X.env.2.1 (.castable xIA xIA) (List.mem_of_getElem? (i := 1) rfl))) (fun H locs q9 hS => ?_)
  refine lv_astore_n (lv' := [(3, .ref q9), (0, .ref (ad q)), (1, .int a1), (2, .ref (ad qo))]) hx hb dL_bedsFor_12 rfl hl (by decide) rfl (fun ls hl => ?_)
  refine lv_iconst (v := 1) hx hb dL_bedsFor_13 (by decide) ?_
  exact r_iretN X hS hr hlk dL_bedsFor_14
set_option maxHeartbeats 4000000 in
set_option maxRecDepth 100000 in
theorem x_L_bedsFor_3 (l : Launch) {D : va_G} {cI cG cL : ClassId} {A : Nat → Prop} {tC tS : Nat} {adE adK adV : Nat → Nat} (hE : EnOK (ENV tC tS adE adK adV A) A) {wo : Int64 → Mem → va_W} {ad : Nat → Nat} {q qo : Nat} {a1 : Int32} {o : Int64} {μ : Mem} (hw : ∀ o, PGAt cI cG adE (wo o) ad q) (ho : OutAt cL wo ad qo) (hst : l.stackTraces = false) (h : f_X6_bedsFor_t q a1 μ = some 3) : Met l yL_bedsFor wsL_bedsFor (rmx 8 123) (WPre D (tyl cI cG cL) A (ENV tC tS adE adK adV A) (wo o μ) [.ref (ad q), .int a1, .ref (ad qo)]) (PI D A (wo o μ) 2) 1 6 A := by
  refine met_startW (cc := cL_bedsFor) (nL := 4) (ret := some .int) (hh := [(0, 9, 12, 19), (0, 9, 15, 13)]) (own := RL) hE (by decide) rfl rfl (Nat.le_of_ble_eq_true rfl) (fun p e s m args below meth c ls X htab hS hl hr hlk => ?_)
  have hx := X.1.1
  have hb := X.1.2.1
  replace hl : lv_has ls 4 [(0, .ref (ad q)), (1, .int a1), (2, .ref (ad qo))] := hl
  have mk0 : Cond.classLink RL 19 xIA ∈ wsL_bedsFor := by decide +kernel
  have mk1 : Cond.classLink RL 13 xIS ∈ wsL_bedsFor := by decide +kernel
  refine lv_aload_n hx hb dL_bedsFor_0 rfl (lv_at hl 2 rfl) ?_
  refine lv_iconst (v := 0) hx hb dL_bedsFor_1 (by decide) ?_
  refine lv_aload_n hx hb dL_bedsFor_2 rfl (lv_at hl 0 rfl) ?_
  refine lv_iload_n hx hb dL_bedsFor_3 rfl (lv_at hl 1 rfl) ?_
  refine r_thr (r := 3) (As := [.int a1]) (rest := [.int 0, .ref (ad qo)]) X hS (t_X6_bedsFor l hE (w := wo o) (ad := ad) (μ := μ) (D := D) (cI := cI) (cG := cG) (cL := cL) (hw o) hst h) (cwV 1 X.1.2.2.2.2 gL_bedsFor_X6_bedsFor rfl rfl rfl (by decide +kernel) ⟨Nat.le_of_ble_eq_true rfl, Nat.le_of_ble_eq_true rfl⟩) (q0 := q) (ci := 4) rfl ((hw o).1 μ).1 rfl hl.1 rfl (Nat.le_of_ble_eq_true rfl) dL_bedsFor_4 ⟨Nat.le_of_ble_eq_true rfl, Nat.le_of_ble_eq_true rfl⟩ [⟨0, 9, 12, 19⟩] ⟨0, 9, 15, 13⟩ [] htab (List.forall_mem_cons.mpr ⟨Or.inr ⟨by decide, _, X.1.2.2.2.2 _ mk0, X.env.2.2.1.1⟩, (fun _ h => absurd h List.not_mem_nil)⟩) rfl (by decide) (X.1.2.2.2.2 _ mk1) (va_Nw.use rfl (X.env.2.1 (.castable xIS xIS) (List.mem_of_getElem? (i := 2) rfl))) (fun H locs q9 hS => ?_)
  refine lv_astore_n (lv' := [(3, .ref q9), (0, .ref (ad q)), (1, .int a1), (2, .ref (ad qo))]) hx hb dL_bedsFor_15 rfl hl (by decide) rfl (fun ls hl => ?_)
  refine lv_iconst (v := 2) hx hb dL_bedsFor_16 (by decide) ?_
  exact r_iretN X hS hr hlk dL_bedsFor_17
set_option maxHeartbeats 4000000 in
set_option maxRecDepth 100000 in
theorem o_L_reason (l : Launch) {D : va_G} {cI cG cL : ClassId} {A : Nat → Prop} {EN : State → Heap → Prop} {adE : Nat → Nat} (hE : EnOK EN A) {wo : Int64 → Mem → va_W} {ad : Nat → Nat} {q qo : Nat} {a1 : Int32} {o : Int64} {μ : Mem} {r : Int32} (hw : ∀ o, PGAt cI cG adE (wo o) ad q) (ho : OutAt cL wo ad qo) (h : f_X6_reason q a1 μ = some r) : Met l yL_reason wsL_reason (rmk 6 127) (WPre D (tyl cI cG cL) A EN (wo o μ) [.ref (ad q), .int a1, .ref (ad qo)]) (PI D A (wo r.toInt64 μ) 0) 0 0 A := by
  refine met_startW (cc := cL_reason) (nL := 4) (ret := some .int) (hh := [(0, 9, 12, 19), (0, 9, 15, 13)]) (own := RL) hE (by decide) rfl rfl (Nat.le_of_ble_eq_true rfl) (fun p e s m args below meth c ls X htab hS hl hr hlk => ?_)
  have hx := X.1.1
  have hb := X.1.2.1
  replace hl : lv_has ls 4 [(0, .ref (ad q)), (1, .int a1), (2, .ref (ad qo))] := hl
  refine lv_aload_n hx hb dL_reason_0 rfl (lv_at hl 2 rfl) ?_
  refine lv_iconst (v := 0) hx hb dL_reason_1 (by decide) ?_
  refine lv_aload_n hx hb dL_reason_2 rfl (lv_at hl 0 rfl) ?_
  refine lv_iload_n hx hb dL_reason_3 rfl (lv_at hl 1 rfl) ?_
  refine r_ci hS (r_runV (As := [.int a1]) (rest := [.int 0, .ref (ad qo)]) X hS (c_X6_reason l hE (w := wo o) (ad := ad) (μ := μ) (D := D) (cI := cI) (cG := cG) (cL := cL) (hw o) h) (cwV 1 X.1.2.2.2.2 gL_reason_X6_reason rfl rfl rfl (by decide +kernel) ⟨Nat.le_of_ble_eq_true rfl, Nat.le_of_ble_eq_true rfl⟩) (q0 := q) (ci := 4) rfl ((hw o).1 μ).1 rfl hl.1 rfl (Nat.le_of_ble_eq_true rfl) dL_reason_4 ⟨Nat.zero_le _, Nat.zero_le _⟩) (fun H locs hS => ?_)
  refine lv_i2l (v := r.toInt64) hx hb dL_reason_7 rfl ?_
  refine r_last X hS ho dL_reason_8 (fun H locs hS => ?_)
  refine lv_goto (tgt := 18) hx hb dL_reason_9 (by decide) ?_
  refine lv_iconst (v := 0) hx hb dL_reason_18 (by decide) ?_
  exact r_iretN X hS hr hlk dL_reason_19
set_option maxHeartbeats 4000000 in
set_option maxRecDepth 100000 in
theorem x_L_reason_2 (l : Launch) {D : va_G} {cI cG cL : ClassId} {A : Nat → Prop} {tC tS : Nat} {adE adK adV : Nat → Nat} (hE : EnOK (ENV tC tS adE adK adV A) A) {wo : Int64 → Mem → va_W} {ad : Nat → Nat} {q qo : Nat} {a1 : Int32} {o : Int64} {μ : Mem} (hw : ∀ o, PGAt cI cG adE (wo o) ad q) (ho : OutAt cL wo ad qo) (hst : l.stackTraces = false) (h : f_X6_reason_t q a1 μ = some 2) : Met l yL_reason wsL_reason (rmx 8 127) (WPre D (tyl cI cG cL) A (ENV tC tS adE adK adV A) (wo o μ) [.ref (ad q), .int a1, .ref (ad qo)]) (PI D A (wo o μ) 1) 1 6 A := by
  refine met_startW (cc := cL_reason) (nL := 4) (ret := some .int) (hh := [(0, 9, 12, 19), (0, 9, 15, 13)]) (own := RL) hE (by decide) rfl rfl (Nat.le_of_ble_eq_true rfl) (fun p e s m args below meth c ls X htab hS hl hr hlk => ?_)
  have hx := X.1.1
  have hb := X.1.2.1
  replace hl : lv_has ls 4 [(0, .ref (ad q)), (1, .int a1), (2, .ref (ad qo))] := hl
  have mk0 : Cond.classLink RL 19 xIA ∈ wsL_reason := by decide +kernel
  refine lv_aload_n hx hb dL_reason_0 rfl (lv_at hl 2 rfl) ?_
  refine lv_iconst (v := 0) hx hb dL_reason_1 (by decide) ?_
  refine lv_aload_n hx hb dL_reason_2 rfl (lv_at hl 0 rfl) ?_
  refine lv_iload_n hx hb dL_reason_3 rfl (lv_at hl 1 rfl) ?_
  refine r_thr (r := 2) (As := [.int a1]) (rest := [.int 0, .ref (ad qo)]) X hS (t_X6_reason l hE (w := wo o) (ad := ad) (μ := μ) (D := D) (cI := cI) (cG := cG) (cL := cL) (hw o) hst h) (cwV 1 X.1.2.2.2.2 gL_reason_X6_reason rfl rfl rfl (by decide +kernel) ⟨Nat.le_of_ble_eq_true rfl, Nat.le_of_ble_eq_true rfl⟩) (q0 := q) (ci := 4) rfl ((hw o).1 μ).1 rfl hl.1 rfl (Nat.le_of_ble_eq_true rfl) dL_reason_4 ⟨Nat.le_of_ble_eq_true rfl, Nat.le_of_ble_eq_true rfl⟩ [] ⟨0, 9, 12, 19⟩ [⟨0, 9, 15, 13⟩] htab (fun _ h => absurd h List.not_mem_nil) rfl (by decide) (X.1.2.2.2.2 _ mk0) (va_Nw.use rfl (X.env.2.1 (.castable xIA xIA) (List.mem_of_getElem? (i := 1) rfl))) (fun H locs q9 hS => ?_)
  refine lv_astore_n (lv' := [(3, .ref q9), (0, .ref (ad q)), (1, .int a1), (2, .ref (ad qo))]) hx hb dL_reason_12 rfl hl (by decide) rfl (fun ls hl => ?_)
  refine lv_iconst (v := 1) hx hb dL_reason_13 (by decide) ?_
  exact r_iretN X hS hr hlk dL_reason_14
set_option maxHeartbeats 4000000 in
set_option maxRecDepth 100000 in
theorem x_L_reason_3 (l : Launch) {D : va_G} {cI cG cL : ClassId} {A : Nat → Prop} {tC tS : Nat} {adE adK adV : Nat → Nat} (hE : EnOK (ENV tC tS adE adK adV A) A) {wo : Int64 → Mem → va_W} {ad : Nat → Nat} {q qo : Nat} {a1 : Int32} {o : Int64} {μ : Mem} (hw : ∀ o, PGAt cI cG adE (wo o) ad q) (ho : OutAt cL wo ad qo) (hst : l.stackTraces = false) (h : f_X6_reason_t q a1 μ = some 3) : Met l yL_reason wsL_reason (rmx 8 127) (WPre D (tyl cI cG cL) A (ENV tC tS adE adK adV A) (wo o μ) [.ref (ad q), .int a1, .ref (ad qo)]) (PI D A (wo o μ) 2) 1 6 A := by
  refine met_startW (cc := cL_reason) (nL := 4) (ret := some .int) (hh := [(0, 9, 12, 19), (0, 9, 15, 13)]) (own := RL) hE (by decide) rfl rfl (Nat.le_of_ble_eq_true rfl) (fun p e s m args below meth c ls X htab hS hl hr hlk => ?_)
  have hx := X.1.1
  have hb := X.1.2.1
  replace hl : lv_has ls 4 [(0, .ref (ad q)), (1, .int a1), (2, .ref (ad qo))] := hl
  have mk0 : Cond.classLink RL 19 xIA ∈ wsL_reason := by decide +kernel
  have mk1 : Cond.classLink RL 13 xIS ∈ wsL_reason := by decide +kernel
  refine lv_aload_n hx hb dL_reason_0 rfl (lv_at hl 2 rfl) ?_
  refine lv_iconst (v := 0) hx hb dL_reason_1 (by decide) ?_
  refine lv_aload_n hx hb dL_reason_2 rfl (lv_at hl 0 rfl) ?_
  refine lv_iload_n hx hb dL_reason_3 rfl (lv_at hl 1 rfl) ?_
  refine r_thr (r := 3) (As := [.int a1]) (rest := [.int 0, .ref (ad qo)]) X hS (t_X6_reason l hE (w := wo o) (ad := ad) (μ := μ) (D := D) (cI := cI) (cG := cG) (cL := cL) (hw o) hst h) (cwV 1 X.1.2.2.2.2 gL_reason_X6_reason rfl rfl rfl (by decide +kernel) ⟨Nat.le_of_ble_eq_true rfl, Nat.le_of_ble_eq_true rfl⟩) (q0 := q) (ci := 4) rfl ((hw o).1 μ).1 rfl hl.1 rfl (Nat.le_of_ble_eq_true rfl) dL_reason_4 ⟨Nat.le_of_ble_eq_true rfl, Nat.le_of_ble_eq_true rfl⟩ [⟨0, 9, 12, 19⟩] ⟨0, 9, 15, 13⟩ [] htab (List.forall_mem_cons.mpr ⟨Or.inr ⟨by decide, _, X.1.2.2.2.2 _ mk0, X.env.2.2.1.1⟩, (fun _ h => absurd h List.not_mem_nil)⟩) rfl (by decide) (X.1.2.2.2.2 _ mk1) (va_Nw.use rfl (X.env.2.1 (.castable xIS xIS) (List.mem_of_getElem? (i := 2) rfl))) (fun H locs q9 hS => ?_)
  refine lv_astore_n (lv' := [(3, .ref q9), (0, .ref (ad q)), (1, .int a1), (2, .ref (ad qo))]) hx hb dL_reason_15 rfl hl (by decide) rfl (fun ls hl => ?_)
  refine lv_iconst (v := 2) hx hb dL_reason_16 (by decide) ?_
  exact r_iretN X hS hr hlk dL_reason_17
set_option maxHeartbeats 4000000 in
set_option maxRecDepth 100000 in
theorem o_L_neededWithout (l : Launch) {D : va_G} {cI cG cL : ClassId} {A : Nat → Prop} {EN : State → Heap → Prop} {adE : Nat → Nat} (hE : EnOK EN A) {wo : Int64 → Mem → va_W} {ad : Nat → Nat} {q qo : Nat} {a1 : Int32} {o : Int64} {μ : Mem} {r : Int32} (hw : ∀ o, PGAt cI cG adE (wo o) ad q) (ho : OutAt cL wo ad qo) (h : f_X6_neededWithout q a1 μ = some r) : Met l yL_neededWithout wsL_neededWithout (rmk 4 84) (WPre D (tyl cI cG cL) A EN (wo o μ) [.ref (ad q), .int a1, .ref (ad qo)]) (PI D A (wo r.toInt64 μ) 0) 0 0 A := by
  refine met_startW (cc := cL_neededWithout) (nL := 4) (ret := some .int) (hh := [(0, 9, 12, 37), (0, 9, 15, 13)]) (own := RL) hE (by decide) rfl rfl (Nat.le_of_ble_eq_true rfl) (fun p e s m args below meth c ls X htab hS hl hr hlk => ?_)
  have hx := X.1.1
  have hb := X.1.2.1
  replace hl : lv_has ls 4 [(0, .ref (ad q)), (1, .int a1), (2, .ref (ad qo))] := hl
  refine lv_aload_n hx hb dL_neededWithout_0 rfl (lv_at hl 2 rfl) ?_
  refine lv_iconst (v := 0) hx hb dL_neededWithout_1 (by decide) ?_
  refine lv_aload_n hx hb dL_neededWithout_2 rfl (lv_at hl 0 rfl) ?_
  refine lv_iload_n hx hb dL_neededWithout_3 rfl (lv_at hl 1 rfl) ?_
  refine r_ci hS (r_runV (As := [.int a1]) (rest := [.int 0, .ref (ad qo)]) X hS (c_X6_neededWithout l hE (w := wo o) (ad := ad) (μ := μ) (D := D) (cI := cI) (cG := cG) (cL := cL) (hw o) h) (cwV 1 X.1.2.2.2.2 gL_neededWithout_X6_neededWithout rfl rfl rfl (by decide +kernel) ⟨Nat.le_of_ble_eq_true rfl, Nat.le_of_ble_eq_true rfl⟩) (q0 := q) (ci := 4) rfl ((hw o).1 μ).1 rfl hl.1 rfl (Nat.le_of_ble_eq_true rfl) dL_neededWithout_4 ⟨Nat.zero_le _, Nat.zero_le _⟩) (fun H locs hS => ?_)
  refine lv_i2l (v := r.toInt64) hx hb dL_neededWithout_7 rfl ?_
  refine r_last X hS ho dL_neededWithout_8 (fun H locs hS => ?_)
  refine lv_goto (tgt := 18) hx hb dL_neededWithout_9 (by decide) ?_
  refine lv_iconst (v := 0) hx hb dL_neededWithout_18 (by decide) ?_
  exact r_iretN X hS hr hlk dL_neededWithout_19
set_option maxHeartbeats 4000000 in
set_option maxRecDepth 100000 in
theorem x_L_neededWithout_1 (l : Launch) {D : va_G} {cI cG cL : ClassId} {A : Nat → Prop} {tC tS : Nat} {adE adK adV : Nat → Nat} (hE : EnOK (ENV tC tS adE adK adV A) A) {wo : Int64 → Mem → va_W} {ad : Nat → Nat} {q qo : Nat} {a1 : Int32} {o : Int64} {μ : Mem} (hw : ∀ o, PGAt cI cG adE (wo o) ad q) (ho : OutAt cL wo ad qo) (hst : l.stackTraces = false) (h : f_X6_neededWithout_t q a1 μ = some 1) : Met l yL_neededWithout wsL_neededWithout (rmx 8 123) (WPre D (tyl cI cG cL) A (ENV tC tS adE adK adV A) (wo o μ) [.ref (ad q), .int a1, .ref (ad qo)]) (PI D A (wo o μ) 1) 1 6 A := by
  refine met_startW (cc := cL_neededWithout) (nL := 4) (ret := some .int) (hh := [(0, 9, 12, 37), (0, 9, 15, 13)]) (own := RL) hE (by decide) rfl rfl (Nat.le_of_ble_eq_true rfl) (fun p e s m args below meth c ls X htab hS hl hr hlk => ?_)
  have hx := X.1.1
  have hb := X.1.2.1
  replace hl : lv_has ls 4 [(0, .ref (ad q)), (1, .int a1), (2, .ref (ad qo))] := hl
  have mk0 : Cond.classLink RL 37 xIO ∈ wsL_neededWithout := by decide +kernel
  refine lv_aload_n hx hb dL_neededWithout_0 rfl (lv_at hl 2 rfl) ?_
  refine lv_iconst (v := 0) hx hb dL_neededWithout_1 (by decide) ?_
  refine lv_aload_n hx hb dL_neededWithout_2 rfl (lv_at hl 0 rfl) ?_
  refine lv_iload_n hx hb dL_neededWithout_3 rfl (lv_at hl 1 rfl) ?_
  refine r_thr (r := 1) (As := [.int a1]) (rest := [.int 0, .ref (ad qo)]) X hS (t_X6_neededWithout l hE (w := wo o) (ad := ad) (μ := μ) (D := D) (cI := cI) (cG := cG) (cL := cL) (hw o) hst h) (cwV 1 X.1.2.2.2.2 gL_neededWithout_X6_neededWithout rfl rfl rfl (by decide +kernel) ⟨Nat.le_of_ble_eq_true rfl, Nat.le_of_ble_eq_true rfl⟩) (q0 := q) (ci := 4) rfl ((hw o).1 μ).1 rfl hl.1 rfl (Nat.le_of_ble_eq_true rfl) dL_neededWithout_4 ⟨Nat.le_of_ble_eq_true rfl, Nat.le_of_ble_eq_true rfl⟩ [] ⟨0, 9, 12, 37⟩ [⟨0, 9, 15, 13⟩] htab (fun _ h => absurd h List.not_mem_nil) rfl (by decide) (X.1.2.2.2.2 _ mk0) (va_Nw.use rfl (X.env.2.1 (.castable xIO xIO) (List.mem_of_getElem? (i := 0) rfl))) (fun H locs q9 hS => ?_)
  refine lv_astore_n (lv' := [(3, .ref q9), (0, .ref (ad q)), (1, .int a1), (2, .ref (ad qo))]) hx hb dL_neededWithout_12 rfl hl (by decide) rfl (fun ls hl => ?_)
  refine lv_iconst (v := 1) hx hb dL_neededWithout_13 (by decide) ?_
  exact r_iretN X hS hr hlk dL_neededWithout_14
set_option maxHeartbeats 4000000 in
set_option maxRecDepth 100000 in
theorem x_L_neededWithout_3 (l : Launch) {D : va_G} {cI cG cL : ClassId} {A : Nat → Prop} {tC tS : Nat} {adE adK adV : Nat → Nat} (hE : EnOK (ENV tC tS adE adK adV A) A) {wo : Int64 → Mem → va_W} {ad : Nat → Nat} {q qo : Nat} {a1 : Int32} {o : Int64} {μ : Mem} (hw : ∀ o, PGAt cI cG adE (wo o) ad q) (ho : OutAt cL wo ad qo) (hst : l.stackTraces = false) (h : f_X6_neededWithout_t q a1 μ = some 3) : Met l yL_neededWithout wsL_neededWithout (rmx 8 123) (WPre D (tyl cI cG cL) A (ENV tC tS adE adK adV A) (wo o μ) [.ref (ad q), .int a1, .ref (ad qo)]) (PI D A (wo o μ) 2) 1 6 A := by
  refine met_startW (cc := cL_neededWithout) (nL := 4) (ret := some .int) (hh := [(0, 9, 12, 37), (0, 9, 15, 13)]) (own := RL) hE (by decide) rfl rfl (Nat.le_of_ble_eq_true rfl) (fun p e s m args below meth c ls X htab hS hl hr hlk => ?_)
  have hx := X.1.1
  have hb := X.1.2.1
  replace hl : lv_has ls 4 [(0, .ref (ad q)), (1, .int a1), (2, .ref (ad qo))] := hl
  have mk0 : Cond.classLink RL 37 xIO ∈ wsL_neededWithout := by decide +kernel
  have mk1 : Cond.classLink RL 13 xIS ∈ wsL_neededWithout := by decide +kernel
  refine lv_aload_n hx hb dL_neededWithout_0 rfl (lv_at hl 2 rfl) ?_
  refine lv_iconst (v := 0) hx hb dL_neededWithout_1 (by decide) ?_
  refine lv_aload_n hx hb dL_neededWithout_2 rfl (lv_at hl 0 rfl) ?_
  refine lv_iload_n hx hb dL_neededWithout_3 rfl (lv_at hl 1 rfl) ?_
  refine r_thr (r := 3) (As := [.int a1]) (rest := [.int 0, .ref (ad qo)]) X hS (t_X6_neededWithout l hE (w := wo o) (ad := ad) (μ := μ) (D := D) (cI := cI) (cG := cG) (cL := cL) (hw o) hst h) (cwV 1 X.1.2.2.2.2 gL_neededWithout_X6_neededWithout rfl rfl rfl (by decide +kernel) ⟨Nat.le_of_ble_eq_true rfl, Nat.le_of_ble_eq_true rfl⟩) (q0 := q) (ci := 4) rfl ((hw o).1 μ).1 rfl hl.1 rfl (Nat.le_of_ble_eq_true rfl) dL_neededWithout_4 ⟨Nat.le_of_ble_eq_true rfl, Nat.le_of_ble_eq_true rfl⟩ [⟨0, 9, 12, 37⟩] ⟨0, 9, 15, 13⟩ [] htab (List.forall_mem_cons.mpr ⟨Or.inr ⟨by decide, _, X.1.2.2.2.2 _ mk0, X.env.2.2.1.2.1⟩, (fun _ h => absurd h List.not_mem_nil)⟩) rfl (by decide) (X.1.2.2.2.2 _ mk1) (va_Nw.use rfl (X.env.2.1 (.castable xIS xIS) (List.mem_of_getElem? (i := 2) rfl))) (fun H locs q9 hS => ?_)
  refine lv_astore_n (lv' := [(3, .ref q9), (0, .ref (ad q)), (1, .int a1), (2, .ref (ad qo))]) hx hb dL_neededWithout_15 rfl hl (by decide) rfl (fun ls hl => ?_)
  refine lv_iconst (v := 2) hx hb dL_neededWithout_16 (by decide) ?_
  exact r_iretN X hS hr hlk dL_neededWithout_17
set_option maxHeartbeats 4000000 in
set_option maxRecDepth 100000 in
theorem o_L_changedSince (l : Launch) {D : va_G} {cI cG cL : ClassId} {A : Nat → Prop} {EN : State → Heap → Prop} {adE : Nat → Nat} (hE : EnOK EN A) {wo : Int64 → Mem → va_W} {ad : Nat → Nat} {q qo : Nat} {a1 : Int32} {o : Int64} {μ : Mem} {r : Int32} (hw : ∀ o, PGAt cI cG adE (wo o) ad q) (ho : OutAt cL wo ad qo) (h : f_X6_changedSince q a1 μ = some r) : Met l yL_changedSince wsL_changedSince (rmk 6 137) (WPre D (tyl cI cG cL) A EN (wo o μ) [.ref (ad q), .int a1, .ref (ad qo)]) (PI D A (wo r.toInt64 μ) 0) 0 0 A := by
  refine met_startW (cc := cL_changedSince) (nL := 4) (ret := some .int) (hh := [(0, 9, 12, 37), (0, 9, 15, 13)]) (own := RL) hE (by decide) rfl rfl (Nat.le_of_ble_eq_true rfl) (fun p e s m args below meth c ls X htab hS hl hr hlk => ?_)
  have hx := X.1.1
  have hb := X.1.2.1
  replace hl : lv_has ls 4 [(0, .ref (ad q)), (1, .int a1), (2, .ref (ad qo))] := hl
  refine lv_aload_n hx hb dL_changedSince_0 rfl (lv_at hl 2 rfl) ?_
  refine lv_iconst (v := 0) hx hb dL_changedSince_1 (by decide) ?_
  refine lv_aload_n hx hb dL_changedSince_2 rfl (lv_at hl 0 rfl) ?_
  refine lv_iload_n hx hb dL_changedSince_3 rfl (lv_at hl 1 rfl) ?_
  refine r_ci hS (r_runV (As := [.int a1]) (rest := [.int 0, .ref (ad qo)]) X hS (c_X6_changedSince l hE (w := wo o) (ad := ad) (μ := μ) (D := D) (cI := cI) (cG := cG) (cL := cL) (hw o) h) (cwV 1 X.1.2.2.2.2 gL_changedSince_X6_changedSince rfl rfl rfl (by decide +kernel) ⟨Nat.le_of_ble_eq_true rfl, Nat.le_of_ble_eq_true rfl⟩) (q0 := q) (ci := 4) rfl ((hw o).1 μ).1 rfl hl.1 rfl (Nat.le_of_ble_eq_true rfl) dL_changedSince_4 ⟨Nat.zero_le _, Nat.zero_le _⟩) (fun H locs hS => ?_)
  refine lv_i2l (v := r.toInt64) hx hb dL_changedSince_7 rfl ?_
  refine r_last X hS ho dL_changedSince_8 (fun H locs hS => ?_)
  refine lv_goto (tgt := 18) hx hb dL_changedSince_9 (by decide) ?_
  refine lv_iconst (v := 0) hx hb dL_changedSince_18 (by decide) ?_
  exact r_iretN X hS hr hlk dL_changedSince_19
set_option maxHeartbeats 4000000 in
set_option maxRecDepth 100000 in
theorem x_L_changedSince_1 (l : Launch) {D : va_G} {cI cG cL : ClassId} {A : Nat → Prop} {tC tS : Nat} {adE adK adV : Nat → Nat} (hE : EnOK (ENV tC tS adE adK adV A) A) {wo : Int64 → Mem → va_W} {ad : Nat → Nat} {q qo : Nat} {a1 : Int32} {o : Int64} {μ : Mem} (hw : ∀ o, PGAt cI cG adE (wo o) ad q) (ho : OutAt cL wo ad qo) (hst : l.stackTraces = false) (h : f_X6_changedSince_t q a1 μ = some 1) : Met l yL_changedSince wsL_changedSince (rmx 8 137) (WPre D (tyl cI cG cL) A (ENV tC tS adE adK adV A) (wo o μ) [.ref (ad q), .int a1, .ref (ad qo)]) (PI D A (wo o μ) 1) 1 6 A := by
  refine met_startW (cc := cL_changedSince) (nL := 4) (ret := some .int) (hh := [(0, 9, 12, 37), (0, 9, 15, 13)]) (own := RL) hE (by decide) rfl rfl (Nat.le_of_ble_eq_true rfl) (fun p e s m args below meth c ls X htab hS hl hr hlk => ?_)
  have hx := X.1.1
  have hb := X.1.2.1
  replace hl : lv_has ls 4 [(0, .ref (ad q)), (1, .int a1), (2, .ref (ad qo))] := hl
  have mk0 : Cond.classLink RL 37 xIO ∈ wsL_changedSince := by decide +kernel
  refine lv_aload_n hx hb dL_changedSince_0 rfl (lv_at hl 2 rfl) ?_
  refine lv_iconst (v := 0) hx hb dL_changedSince_1 (by decide) ?_
  refine lv_aload_n hx hb dL_changedSince_2 rfl (lv_at hl 0 rfl) ?_
  refine lv_iload_n hx hb dL_changedSince_3 rfl (lv_at hl 1 rfl) ?_
  refine r_thr (r := 1) (As := [.int a1]) (rest := [.int 0, .ref (ad qo)]) X hS (t_X6_changedSince l hE (w := wo o) (ad := ad) (μ := μ) (D := D) (cI := cI) (cG := cG) (cL := cL) (hw o) hst h) (cwV 1 X.1.2.2.2.2 gL_changedSince_X6_changedSince rfl rfl rfl (by decide +kernel) ⟨Nat.le_of_ble_eq_true rfl, Nat.le_of_ble_eq_true rfl⟩) (q0 := q) (ci := 4) rfl ((hw o).1 μ).1 rfl hl.1 rfl (Nat.le_of_ble_eq_true rfl) dL_changedSince_4 ⟨Nat.le_of_ble_eq_true rfl, Nat.le_of_ble_eq_true rfl⟩ [] ⟨0, 9, 12, 37⟩ [⟨0, 9, 15, 13⟩] htab (fun _ h => absurd h List.not_mem_nil) rfl (by decide) (X.1.2.2.2.2 _ mk0) (va_Nw.use rfl (X.env.2.1 (.castable xIO xIO) (List.mem_of_getElem? (i := 0) rfl))) (fun H locs q9 hS => ?_)
  refine lv_astore_n (lv' := [(3, .ref q9), (0, .ref (ad q)), (1, .int a1), (2, .ref (ad qo))]) hx hb dL_changedSince_12 rfl hl (by decide) rfl (fun ls hl => ?_)
  refine lv_iconst (v := 1) hx hb dL_changedSince_13 (by decide) ?_
  exact r_iretN X hS hr hlk dL_changedSince_14
set_option maxHeartbeats 4000000 in
set_option maxRecDepth 100000 in
theorem x_L_changedSince_3 (l : Launch) {D : va_G} {cI cG cL : ClassId} {A : Nat → Prop} {tC tS : Nat} {adE adK adV : Nat → Nat} (hE : EnOK (ENV tC tS adE adK adV A) A) {wo : Int64 → Mem → va_W} {ad : Nat → Nat} {q qo : Nat} {a1 : Int32} {o : Int64} {μ : Mem} (hw : ∀ o, PGAt cI cG adE (wo o) ad q) (ho : OutAt cL wo ad qo) (hst : l.stackTraces = false) (h : f_X6_changedSince_t q a1 μ = some 3) : Met l yL_changedSince wsL_changedSince (rmx 8 137) (WPre D (tyl cI cG cL) A (ENV tC tS adE adK adV A) (wo o μ) [.ref (ad q), .int a1, .ref (ad qo)]) (PI D A (wo o μ) 2) 1 6 A := by
  refine met_startW (cc := cL_changedSince) (nL := 4) (ret := some .int) (hh := [(0, 9, 12, 37), (0, 9, 15, 13)]) (own := RL) hE (by decide) rfl rfl (Nat.le_of_ble_eq_true rfl) (fun p e s m args below meth c ls X htab hS hl hr hlk => ?_)
  have hx := X.1.1
  have hb := X.1.2.1
  replace hl : lv_has ls 4 [(0, .ref (ad q)), (1, .int a1), (2, .ref (ad qo))] := hl
  have mk0 : Cond.classLink RL 37 xIO ∈ wsL_changedSince := by decide +kernel
  have mk1 : Cond.classLink RL 13 xIS ∈ wsL_changedSince := by decide +kernel
  refine lv_aload_n hx hb dL_changedSince_0 rfl (lv_at hl 2 rfl) ?_
  refine lv_iconst (v := 0) hx hb dL_changedSince_1 (by decide) ?_
  refine lv_aload_n hx hb dL_changedSince_2 rfl (lv_at hl 0 rfl) ?_
  refine lv_iload_n hx hb dL_changedSince_3 rfl (lv_at hl 1 rfl) ?_
  refine r_thr (r := 3) (As := [.int a1]) (rest := [.int 0, .ref (ad qo)]) X hS (t_X6_changedSince l hE (w := wo o) (ad := ad) (μ := μ) (D := D) (cI := cI) (cG := cG) (cL := cL) (hw o) hst h) (cwV 1 X.1.2.2.2.2 gL_changedSince_X6_changedSince rfl rfl rfl (by decide +kernel) ⟨Nat.le_of_ble_eq_true rfl, Nat.le_of_ble_eq_true rfl⟩) (q0 := q) (ci := 4) rfl ((hw o).1 μ).1 rfl hl.1 rfl (Nat.le_of_ble_eq_true rfl) dL_changedSince_4 ⟨Nat.le_of_ble_eq_true rfl, Nat.le_of_ble_eq_true rfl⟩ [⟨0, 9, 12, 37⟩] ⟨0, 9, 15, 13⟩ [] htab (List.forall_mem_cons.mpr ⟨Or.inr ⟨by decide, _, X.1.2.2.2.2 _ mk0, X.env.2.2.1.2.1⟩, (fun _ h => absurd h List.not_mem_nil)⟩) rfl (by decide) (X.1.2.2.2.2 _ mk1) (va_Nw.use rfl (X.env.2.1 (.castable xIS xIS) (List.mem_of_getElem? (i := 2) rfl))) (fun H locs q9 hS => ?_)
  refine lv_astore_n (lv' := [(3, .ref q9), (0, .ref (ad q)), (1, .int a1), (2, .ref (ad qo))]) hx hb dL_changedSince_15 rfl hl (by decide) rfl (fun ls hl => ?_)
  refine lv_iconst (v := 2) hx hb dL_changedSince_16 (by decide) ?_
  exact r_iretN X hS hr hlk dL_changedSince_17
set_option maxHeartbeats 4000000 in
set_option maxRecDepth 100000 in
theorem o_L_type (l : Launch) {D : va_G} {cI cG cL : ClassId} {A : Nat → Prop} {EN : State → Heap → Prop} {adE : Nat → Nat} (hE : EnOK EN A) {wo : Int64 → Mem → va_W} {ad : Nat → Nat} {q qo : Nat} {a1 : Int32} {o : Int64} {μ : Mem} {r : Int32} {μ' : Mem} (hw : ∀ o, PGAt cI cG adE (wo o) ad q) (ho : OutAt cL wo ad qo) (h : f_X6_type q a1 μ = some (r, μ')) : Met l yL_type wsL_type (rmk 3 64) (WPre D (tyl cI cG cL) A EN (wo o μ) [.ref (ad q), .int a1, .ref (ad qo)]) (PI D A (wo r.toInt64 μ') 0) 0 0 A := by
  refine met_startW (cc := cL_type) (nL := 4) (ret := some .int) (hh := [(0, 9, 12, 19), (0, 9, 15, 13)]) (own := RL) hE (by decide) rfl rfl (Nat.le_of_ble_eq_true rfl) (fun p e s m args below meth c ls X htab hS hl hr hlk => ?_)
  have hx := X.1.1
  have hb := X.1.2.1
  replace hl : lv_has ls 4 [(0, .ref (ad q)), (1, .int a1), (2, .ref (ad qo))] := hl
  refine lv_aload_n hx hb dL_type_0 rfl (lv_at hl 2 rfl) ?_
  refine lv_iconst (v := 0) hx hb dL_type_1 (by decide) ?_
  refine lv_aload_n hx hb dL_type_2 rfl (lv_at hl 0 rfl) ?_
  refine lv_iload_n hx hb dL_type_3 rfl (lv_at hl 1 rfl) ?_
  refine r_ci hS (r_runV (As := [.int a1]) (rest := [.int 0, .ref (ad qo)]) X hS (c_X6_type l hE (w := wo o) (ad := ad) (μ := μ) (D := D) (cI := cI) (cG := cG) (cL := cL) (hw o) h) (cwV 1 X.1.2.2.2.2 gL_type_X6_type rfl rfl rfl (by decide +kernel) ⟨Nat.le_of_ble_eq_true rfl, Nat.le_of_ble_eq_true rfl⟩) (q0 := q) (ci := 4) rfl ((hw o).1 μ).1 rfl hl.1 rfl (Nat.le_of_ble_eq_true rfl) dL_type_4 ⟨Nat.zero_le _, Nat.zero_le _⟩) (fun H locs hS => ?_)
  refine lv_i2l (v := r.toInt64) hx hb dL_type_7 rfl ?_
  refine r_last X hS ho dL_type_8 (fun H locs hS => ?_)
  refine lv_goto (tgt := 18) hx hb dL_type_9 (by decide) ?_
  refine lv_iconst (v := 0) hx hb dL_type_18 (by decide) ?_
  exact r_iretN X hS hr hlk dL_type_19
set_option maxHeartbeats 4000000 in
set_option maxRecDepth 100000 in
theorem x_L_type_2 (l : Launch) {D : va_G} {cI cG cL : ClassId} {A : Nat → Prop} {tC tS : Nat} {adE adK adV : Nat → Nat} (hE : EnOK (ENV tC tS adE adK adV A) A) {wo : Int64 → Mem → va_W} {ad : Nat → Nat} {q qo : Nat} {a1 : Int32} {o : Int64} {μ : Mem} (hw : ∀ o, PGAt cI cG adE (wo o) ad q) (ho : OutAt cL wo ad qo) (hst : l.stackTraces = false) (h : f_X6_type_t q a1 μ = some 2) : Met l yL_type wsL_type (rmx 8 123) (WPre D (tyl cI cG cL) A (ENV tC tS adE adK adV A) (wo o μ) [.ref (ad q), .int a1, .ref (ad qo)]) (PI D A (wo o μ) 1) 1 6 A := by
  refine met_startW (cc := cL_type) (nL := 4) (ret := some .int) (hh := [(0, 9, 12, 19), (0, 9, 15, 13)]) (own := RL) hE (by decide) rfl rfl (Nat.le_of_ble_eq_true rfl) (fun p e s m args below meth c ls X htab hS hl hr hlk => ?_)
  have hx := X.1.1
  have hb := X.1.2.1
  replace hl : lv_has ls 4 [(0, .ref (ad q)), (1, .int a1), (2, .ref (ad qo))] := hl
  have mk0 : Cond.classLink RL 19 xIA ∈ wsL_type := by decide +kernel
  refine lv_aload_n hx hb dL_type_0 rfl (lv_at hl 2 rfl) ?_
  refine lv_iconst (v := 0) hx hb dL_type_1 (by decide) ?_
  refine lv_aload_n hx hb dL_type_2 rfl (lv_at hl 0 rfl) ?_
  refine lv_iload_n hx hb dL_type_3 rfl (lv_at hl 1 rfl) ?_
  refine r_thr (r := 2) (As := [.int a1]) (rest := [.int 0, .ref (ad qo)]) X hS (t_X6_type l hE (w := wo o) (ad := ad) (μ := μ) (D := D) (cI := cI) (cG := cG) (cL := cL) (hw o) hst h) (cwV 1 X.1.2.2.2.2 gL_type_X6_type rfl rfl rfl (by decide +kernel) ⟨Nat.le_of_ble_eq_true rfl, Nat.le_of_ble_eq_true rfl⟩) (q0 := q) (ci := 4) rfl ((hw o).1 μ).1 rfl hl.1 rfl (Nat.le_of_ble_eq_true rfl) dL_type_4 ⟨Nat.le_of_ble_eq_true rfl, Nat.le_of_ble_eq_true rfl⟩ [] ⟨0, 9, 12, 19⟩ [⟨0, 9, 15, 13⟩] htab (fun _ h => absurd h List.not_mem_nil) rfl (by decide) (X.1.2.2.2.2 _ mk0) (va_Nw.use rfl (X.env.2.1 (.castable xIA xIA) (List.mem_of_getElem? (i := 1) rfl))) (fun H locs q9 hS => ?_)
  refine lv_astore_n (lv' := [(3, .ref q9), (0, .ref (ad q)), (1, .int a1), (2, .ref (ad qo))]) hx hb dL_type_12 rfl hl (by decide) rfl (fun ls hl => ?_)
  refine lv_iconst (v := 1) hx hb dL_type_13 (by decide) ?_
  exact r_iretN X hS hr hlk dL_type_14
set_option maxHeartbeats 4000000 in
set_option maxRecDepth 100000 in
theorem x_L_type_3 (l : Launch) {D : va_G} {cI cG cL : ClassId} {A : Nat → Prop} {tC tS : Nat} {adE adK adV : Nat → Nat} (hE : EnOK (ENV tC tS adE adK adV A) A) {wo : Int64 → Mem → va_W} {ad : Nat → Nat} {q qo : Nat} {a1 : Int32} {o : Int64} {μ : Mem} (hw : ∀ o, PGAt cI cG adE (wo o) ad q) (ho : OutAt cL wo ad qo) (hst : l.stackTraces = false) (h : f_X6_type_t q a1 μ = some 3) : Met l yL_type wsL_type (rmx 8 123) (WPre D (tyl cI cG cL) A (ENV tC tS adE adK adV A) (wo o μ) [.ref (ad q), .int a1, .ref (ad qo)]) (PI D A (wo o μ) 2) 1 6 A := by
  refine met_startW (cc := cL_type) (nL := 4) (ret := some .int) (hh := [(0, 9, 12, 19), (0, 9, 15, 13)]) (own := RL) hE (by decide) rfl rfl (Nat.le_of_ble_eq_true rfl) (fun p e s m args below meth c ls X htab hS hl hr hlk => ?_)
  have hx := X.1.1
  have hb := X.1.2.1
  replace hl : lv_has ls 4 [(0, .ref (ad q)), (1, .int a1), (2, .ref (ad qo))] := hl
  have mk0 : Cond.classLink RL 19 xIA ∈ wsL_type := by decide +kernel
  have mk1 : Cond.classLink RL 13 xIS ∈ wsL_type := by decide +kernel
  refine lv_aload_n hx hb dL_type_0 rfl (lv_at hl 2 rfl) ?_
  refine lv_iconst (v := 0) hx hb dL_type_1 (by decide) ?_
  refine lv_aload_n hx hb dL_type_2 rfl (lv_at hl 0 rfl) ?_
  refine lv_iload_n hx hb dL_type_3 rfl (lv_at hl 1 rfl) ?_
  refine r_thr (r := 3) (As := [.int a1]) (rest := [.int 0, .ref (ad qo)]) X hS (t_X6_type l hE (w := wo o) (ad := ad) (μ := μ) (D := D) (cI := cI) (cG := cG) (cL := cL) (hw o) hst h) (cwV 1 X.1.2.2.2.2 gL_type_X6_type rfl rfl rfl (by decide +kernel) ⟨Nat.le_of_ble_eq_true rfl, Nat.le_of_ble_eq_true rfl⟩) (q0 := q) (ci := 4) rfl ((hw o).1 μ).1 rfl hl.1 rfl (Nat.le_of_ble_eq_true rfl) dL_type_4 ⟨Nat.le_of_ble_eq_true rfl, Nat.le_of_ble_eq_true rfl⟩ [⟨0, 9, 12, 19⟩] ⟨0, 9, 15, 13⟩ [] htab (List.forall_mem_cons.mpr ⟨Or.inr ⟨by decide, _, X.1.2.2.2.2 _ mk0, X.env.2.2.1.1⟩, (fun _ h => absurd h List.not_mem_nil)⟩) rfl (by decide) (X.1.2.2.2.2 _ mk1) (va_Nw.use rfl (X.env.2.1 (.castable xIS xIS) (List.mem_of_getElem? (i := 2) rfl))) (fun H locs q9 hS => ?_)
  refine lv_astore_n (lv' := [(3, .ref q9), (0, .ref (ad q)), (1, .int a1), (2, .ref (ad qo))]) hx hb dL_type_15 rfl hl (by decide) rfl (fun ls hl => ?_)
  refine lv_iconst (v := 2) hx hb dL_type_16 (by decide) ?_
  exact r_iretN X hS hr hlk dL_type_17
set_option maxHeartbeats 4000000 in
set_option maxRecDepth 100000 in
theorem o_L_undo (l : Launch) {D : va_G} {cI cG cL : ClassId} {A : Nat → Prop} {EN : State → Heap → Prop} {adE : Nat → Nat} (hE : EnOK EN A) {wo : Int64 → Mem → va_W} {ad : Nat → Nat} {q qo : Nat} {o : Int64} {μ : Mem} {r : Int32} {μ' : Mem} (hw : ∀ o, PGAt cI cG adE (wo o) ad q) (ho : OutAt cL wo ad qo) (h : f_X6_undo q μ = some (r, μ')) : Met l yL_undo wsL_undo (rmk 5 107) (WPre D (tyl cI cG cL) A EN (wo o μ) [.ref (ad q), .ref (ad qo)]) (PI D A (wo r.toInt64 μ') 0) 0 0 A := by
  refine met_startW (cc := cL_undo) (nL := 3) (ret := some .int) (hh := [(0, 8, 11, 13)]) (own := RL) hE (by decide) rfl rfl (Nat.le_of_ble_eq_true rfl) (fun p e s m args below meth c ls X htab hS hl hr hlk => ?_)
  have hx := X.1.1
  have hb := X.1.2.1
  replace hl : lv_has ls 3 [(0, .ref (ad q)), (1, .ref (ad qo))] := hl
  refine lv_aload_n hx hb dL_undo_0 rfl (lv_at hl 1 rfl) ?_
  refine lv_iconst (v := 0) hx hb dL_undo_1 (by decide) ?_
  refine lv_aload_n hx hb dL_undo_2 rfl (lv_at hl 0 rfl) ?_
  refine r_ci hS (r_runV (As := []) (rest := [.int 0, .ref (ad qo)]) X hS (c_X6_undo l hE (w := wo o) (ad := ad) (μ := μ) (D := D) (cI := cI) (cG := cG) (cL := cL) (hw o) h) (cwV 0 X.1.2.2.2.2 gL_undo_X6_undo rfl rfl rfl (by decide +kernel) ⟨Nat.le_of_ble_eq_true rfl, Nat.le_of_ble_eq_true rfl⟩) (q0 := q) (ci := 4) rfl ((hw o).1 μ).1 rfl hl.1 rfl (Nat.le_of_ble_eq_true rfl) dL_undo_3 ⟨Nat.zero_le _, Nat.zero_le _⟩) (fun H locs hS => ?_)
  refine lv_i2l (v := r.toInt64) hx hb dL_undo_6 rfl ?_
  refine r_last X hS ho dL_undo_7 (fun H locs hS => ?_)
  refine lv_goto (tgt := 14) hx hb dL_undo_8 (by decide) ?_
  refine lv_iconst (v := 0) hx hb dL_undo_14 (by decide) ?_
  exact r_iretN X hS hr hlk dL_undo_15
set_option maxHeartbeats 4000000 in
set_option maxRecDepth 100000 in
theorem x_L_undo_3 (l : Launch) {D : va_G} {cI cG cL : ClassId} {A : Nat → Prop} {tC tS : Nat} {adE adK adV : Nat → Nat} (hE : EnOK (ENV tC tS adE adK adV A) A) {wo : Int64 → Mem → va_W} {ad : Nat → Nat} {q qo : Nat} {o : Int64} {μ : Mem} (hw : ∀ o, PGAt cI cG adE (wo o) ad q) (ho : OutAt cL wo ad qo) (hst : l.stackTraces = false) (h : f_X6_undo_t q μ = some 3) : Met l yL_undo wsL_undo (rmx 8 122) (WPre D (tyl cI cG cL) A (ENV tC tS adE adK adV A) (wo o μ) [.ref (ad q), .ref (ad qo)]) (PI D A (wo o μ) 1) 1 6 A := by
  refine met_startW (cc := cL_undo) (nL := 3) (ret := some .int) (hh := [(0, 8, 11, 13)]) (own := RL) hE (by decide) rfl rfl (Nat.le_of_ble_eq_true rfl) (fun p e s m args below meth c ls X htab hS hl hr hlk => ?_)
  have hx := X.1.1
  have hb := X.1.2.1
  replace hl : lv_has ls 3 [(0, .ref (ad q)), (1, .ref (ad qo))] := hl
  have mk0 : Cond.classLink RL 13 xIS ∈ wsL_undo := by decide +kernel
  refine lv_aload_n hx hb dL_undo_0 rfl (lv_at hl 1 rfl) ?_
  refine lv_iconst (v := 0) hx hb dL_undo_1 (by decide) ?_
  refine lv_aload_n hx hb dL_undo_2 rfl (lv_at hl 0 rfl) ?_
  refine r_thr (r := 3) (As := []) (rest := [.int 0, .ref (ad qo)]) X hS (t_X6_undo l hE (w := wo o) (ad := ad) (μ := μ) (D := D) (cI := cI) (cG := cG) (cL := cL) (hw o) hst h) (cwV 0 X.1.2.2.2.2 gL_undo_X6_undo rfl rfl rfl (by decide +kernel) ⟨Nat.le_of_ble_eq_true rfl, Nat.le_of_ble_eq_true rfl⟩) (q0 := q) (ci := 4) rfl ((hw o).1 μ).1 rfl hl.1 rfl (Nat.le_of_ble_eq_true rfl) dL_undo_3 ⟨Nat.le_of_ble_eq_true rfl, Nat.le_of_ble_eq_true rfl⟩ [] ⟨0, 8, 11, 13⟩ [] htab (fun _ h => absurd h List.not_mem_nil) rfl (by decide) (X.1.2.2.2.2 _ mk0) (va_Nw.use rfl (X.env.2.1 (.castable xIS xIS) (List.mem_of_getElem? (i := 2) rfl))) (fun H locs q9 hS => ?_)
  refine lv_astore_n (lv' := [(2, .ref q9), (0, .ref (ad q)), (1, .ref (ad qo))]) hx hb dL_undo_11 rfl hl (by decide) rfl (fun ls hl => ?_)
  refine lv_iconst (v := 1) hx hb dL_undo_12 (by decide) ?_
  exact r_iretN X hS hr hlk dL_undo_13
