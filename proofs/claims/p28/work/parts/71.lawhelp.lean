def f_L_put (q0 : Nat) (a1 : Int32) (a2 : Int32) (μ : Mem) : Option (Int32 × Mem) := match f_X6_put q0 a1 a2 μ with
  | some z => some z
  | none => (f_X6_put_t q0 a1 a2 μ).bind (fun k => if k = 2 then some ((-2901), μ) else if k = 3 then some ((-2902), μ) else none)
set_option maxHeartbeats 4000000 in
set_option maxRecDepth 100000 in
theorem c_L_put (l : Launch) {D : va_G} {cI cG cL : ClassId} {A : Nat → Prop} {tC tS : Nat} {adE adK adV : Nat → Nat} (hE : EnOK (ENV tC tS adE adK adV A) A) (hst : l.stackTraces = false) {w : Mem → va_W} {ad : Nat → Nat} {q0 : Nat} {a1 : Int32} {a2 : Int32} {μ : Mem} {r : Int32} {μ' : Mem} (hw0 : PGAt cI cG adE w ad q0) (h : f_L_put q0 a1 a2 μ = some (r, μ')) : Met l yL_put wsL_put (rmc 8 1 6 150) (WPre D (tyl cI cG cL) A (ENV tC tS adE adK adV A) (w μ) [.ref (ad q0), .int a1, .int a2]) (PI D A (w μ') r) 1 6 A := by
  have mk0 : Cond.classLink RL 15 xIA ∈ wsL_put := by decide +kernel
  have mk1 : Cond.classLink RL 17 xIS ∈ wsL_put := by decide +kernel
  refine met_startW (cc := cL_put) (nL := 4) (ret := some .int) (hh := [(0, 6, 7, 15), (0, 6, 12, 17)]) (own := RL) hE (by decide) rfl rfl (Nat.le_of_ble_eq_true rfl) (fun p e s m args below meth c ls X htab hS hl hr hlk => ?_)
  have hx := X.1.1
  have hb := X.1.2.1
  replace hl : lv_has ls 4 [(0, .ref (ad q0)), (1, .int a1), (2, .int a2)] := hl
  refine lv_aload_n hx hb dL_put_0 rfl (lv_at hl 0 rfl) ?_
  refine lv_iload_n hx hb dL_put_1 rfl (lv_at hl 1 rfl) ?_
  refine lv_iload_n hx hb dL_put_2 rfl (lv_at hl 2 rfl) ?_
  unfold f_L_put at h
  cases h1 : f_X6_put q0 a1 a2 μ with
  | some z =>
    rw [h1] at h
    obtain ⟨z1, z2⟩ := z
    obtain ⟨rfl, rfl⟩ := pr2 h
    refine r_ci hS (r_runV (As := [.int a1, .int a2]) (rest := []) X hS (c_X6_put l hE (w := w) (ad := ad) (μ := μ) (D := D) (cI := cI) (cG := cG) (cL := cL) hw0 h1) (cwV 2 X.1.2.2.2.2 gL_put_X6_put rfl rfl rfl (by decide +kernel) ⟨Nat.le_of_ble_eq_true rfl, Nat.le_of_ble_eq_true rfl⟩) (q0 := q0) (ci := 4) rfl (hw0.1 μ).1 rfl hl.1 rfl (Nat.le_of_ble_eq_true rfl) dL_put_3 ⟨Nat.zero_le _, Nat.zero_le _⟩) (fun H locs hS => ?_)
    exact r_iretM X hS hr hlk (by decide) (by decide) dL_put_6
  | none =>
    rw [h1] at h
    obtain ⟨k, h2, h⟩ := ob h
    by_cases cc0 : k = 2
    · replace h := it h cc0
      rw [cc0] at h2
      obtain ⟨rfl, rfl⟩ := pr2 h
      refine r_thr (r := 2) (As := [.int a1, .int a2]) (rest := []) X hS (t_X6_put l hE (w := w) (ad := ad) (μ := μ) (D := D) (cI := cI) (cG := cG) (cL := cL) hw0 hst h2) (cwV 2 X.1.2.2.2.2 gL_put_X6_put rfl rfl rfl (by decide +kernel) ⟨Nat.le_of_ble_eq_true rfl, Nat.le_of_ble_eq_true rfl⟩) (q0 := q0) (ci := 4) rfl (hw0.1 μ).1 rfl hl.1 rfl (Nat.le_of_ble_eq_true rfl) dL_put_3 ⟨Nat.le_of_ble_eq_true rfl, Nat.le_of_ble_eq_true rfl⟩ [] ⟨0, 6, 7, 15⟩ [⟨0, 6, 12, 17⟩] htab (fun _ h => absurd h List.not_mem_nil) rfl (by decide) (X.1.2.2.2.2 _ mk0) (va_Nw.use rfl (X.env.2.1 (.castable xIA xIA) (List.mem_of_getElem? (i := 1) rfl))) (fun H locs q9 hS => ?_)
      refine lv_astore_n (lv' := [(3, .ref q9), (0, .ref (ad q0)), (1, .int a1), (2, .int a2)]) hx hb dL_put_7 rfl hl (by decide) rfl (fun ls hl => ?_)
      refine lv_sipush (v := (-2901)) hx hb dL_put_8 (by decide) ?_
      exact r_iretM X hS hr hlk (by decide) (by decide) dL_put_11
    · replace h := ie h cc0
      by_cases cc1 : k = 3
      · replace h := it h cc1
        rw [cc1] at h2
        obtain ⟨rfl, rfl⟩ := pr2 h
        refine r_thr (r := 3) (As := [.int a1, .int a2]) (rest := []) X hS (t_X6_put l hE (w := w) (ad := ad) (μ := μ) (D := D) (cI := cI) (cG := cG) (cL := cL) hw0 hst h2) (cwV 2 X.1.2.2.2.2 gL_put_X6_put rfl rfl rfl (by decide +kernel) ⟨Nat.le_of_ble_eq_true rfl, Nat.le_of_ble_eq_true rfl⟩) (q0 := q0) (ci := 4) rfl (hw0.1 μ).1 rfl hl.1 rfl (Nat.le_of_ble_eq_true rfl) dL_put_3 ⟨Nat.le_of_ble_eq_true rfl, Nat.le_of_ble_eq_true rfl⟩ [⟨0, 6, 7, 15⟩] ⟨0, 6, 12, 17⟩ [] htab (List.forall_mem_cons.mpr ⟨Or.inr ⟨by decide, _, X.1.2.2.2.2 _ mk0, X.env.2.2.1.1⟩, (fun _ h => absurd h List.not_mem_nil)⟩) rfl (by decide) (X.1.2.2.2.2 _ mk1) (va_Nw.use rfl (X.env.2.1 (.castable xIS xIS) (List.mem_of_getElem? (i := 2) rfl))) (fun H locs q9 hS => ?_)
        refine lv_astore_n (lv' := [(3, .ref q9), (0, .ref (ad q0)), (1, .int a1), (2, .int a2)]) hx hb dL_put_12 rfl hl (by decide) rfl (fun ls hl => ?_)
        refine lv_sipush (v := (-2902)) hx hb dL_put_13 (by decide) ?_
        exact r_iretM X hS hr hlk (by decide) (by decide) dL_put_16
      · replace h := ie h cc1
        cases h
def f_L_remove (q0 : Nat) (a1 : Int32) (μ : Mem) : Option (Int32 × Mem) := match f_X6_remove q0 a1 μ with
  | some z => some z
  | none => (f_X6_remove_t q0 a1 μ).bind (fun k => if k = 2 then some ((-2901), μ) else if k = 3 then some ((-2902), μ) else none)
set_option maxHeartbeats 4000000 in
set_option maxRecDepth 100000 in
theorem c_L_remove (l : Launch) {D : va_G} {cI cG cL : ClassId} {A : Nat → Prop} {tC tS : Nat} {adE adK adV : Nat → Nat} (hE : EnOK (ENV tC tS adE adK adV A) A) (hst : l.stackTraces = false) {w : Mem → va_W} {ad : Nat → Nat} {q0 : Nat} {a1 : Int32} {μ : Mem} {r : Int32} {μ' : Mem} (hw0 : PGAt cI cG adE w ad q0) (h : f_L_remove q0 a1 μ = some (r, μ')) : Met l yL_remove wsL_remove (rmc 8 1 6 141) (WPre D (tyl cI cG cL) A (ENV tC tS adE adK adV A) (w μ) [.ref (ad q0), .int a1]) (PI D A (w μ') r) 1 6 A := by
  have mk0 : Cond.classLink RL 15 xIA ∈ wsL_remove := by decide +kernel
  have mk1 : Cond.classLink RL 17 xIS ∈ wsL_remove := by decide +kernel
  refine met_startW (cc := cL_remove) (nL := 3) (ret := some .int) (hh := [(0, 5, 6, 15), (0, 5, 11, 17)]) (own := RL) hE (by decide) rfl rfl (Nat.le_of_ble_eq_true rfl) (fun p e s m args below meth c ls X htab hS hl hr hlk => ?_)
  have hx := X.1.1
  have hb := X.1.2.1
  replace hl : lv_has ls 3 [(0, .ref (ad q0)), (1, .int a1)] := hl
  refine lv_aload_n hx hb dL_remove_0 rfl (lv_at hl 0 rfl) ?_
  refine lv_iload_n hx hb dL_remove_1 rfl (lv_at hl 1 rfl) ?_
  unfold f_L_remove at h
  cases h1 : f_X6_remove q0 a1 μ with
  | some z =>
    rw [h1] at h
    obtain ⟨z1, z2⟩ := z
    obtain ⟨rfl, rfl⟩ := pr2 h
    refine r_ci hS (r_runV (As := [.int a1]) (rest := []) X hS (c_X6_remove l hE (w := w) (ad := ad) (μ := μ) (D := D) (cI := cI) (cG := cG) (cL := cL) hw0 h1) (cwV 1 X.1.2.2.2.2 gL_remove_X6_remove rfl rfl rfl (by decide +kernel) ⟨Nat.le_of_ble_eq_true rfl, Nat.le_of_ble_eq_true rfl⟩) (q0 := q0) (ci := 4) rfl (hw0.1 μ).1 rfl hl.1 rfl (Nat.le_of_ble_eq_true rfl) dL_remove_2 ⟨Nat.zero_le _, Nat.zero_le _⟩) (fun H locs hS => ?_)
    exact r_iretM X hS hr hlk (by decide) (by decide) dL_remove_5
  | none =>
    rw [h1] at h
    obtain ⟨k, h2, h⟩ := ob h
    by_cases cc0 : k = 2
    · replace h := it h cc0
      rw [cc0] at h2
      obtain ⟨rfl, rfl⟩ := pr2 h
      refine r_thr (r := 2) (As := [.int a1]) (rest := []) X hS (t_X6_remove l hE (w := w) (ad := ad) (μ := μ) (D := D) (cI := cI) (cG := cG) (cL := cL) hw0 hst h2) (cwV 1 X.1.2.2.2.2 gL_remove_X6_remove rfl rfl rfl (by decide +kernel) ⟨Nat.le_of_ble_eq_true rfl, Nat.le_of_ble_eq_true rfl⟩) (q0 := q0) (ci := 4) rfl (hw0.1 μ).1 rfl hl.1 rfl (Nat.le_of_ble_eq_true rfl) dL_remove_2 ⟨Nat.le_of_ble_eq_true rfl, Nat.le_of_ble_eq_true rfl⟩ [] ⟨0, 5, 6, 15⟩ [⟨0, 5, 11, 17⟩] htab (fun _ h => absurd h List.not_mem_nil) rfl (by decide) (X.1.2.2.2.2 _ mk0) (va_Nw.use rfl (X.env.2.1 (.castable xIA xIA) (List.mem_of_getElem? (i := 1) rfl))) (fun H locs q9 hS => ?_)
      refine lv_astore_n (lv' := [(2, .ref q9), (0, .ref (ad q0)), (1, .int a1)]) hx hb dL_remove_6 rfl hl (by decide) rfl (fun ls hl => ?_)
      refine lv_sipush (v := (-2901)) hx hb dL_remove_7 (by decide) ?_
      exact r_iretM X hS hr hlk (by decide) (by decide) dL_remove_10
    · replace h := ie h cc0
      by_cases cc1 : k = 3
      · replace h := it h cc1
        rw [cc1] at h2
        obtain ⟨rfl, rfl⟩ := pr2 h
        refine r_thr (r := 3) (As := [.int a1]) (rest := []) X hS (t_X6_remove l hE (w := w) (ad := ad) (μ := μ) (D := D) (cI := cI) (cG := cG) (cL := cL) hw0 hst h2) (cwV 1 X.1.2.2.2.2 gL_remove_X6_remove rfl rfl rfl (by decide +kernel) ⟨Nat.le_of_ble_eq_true rfl, Nat.le_of_ble_eq_true rfl⟩) (q0 := q0) (ci := 4) rfl (hw0.1 μ).1 rfl hl.1 rfl (Nat.le_of_ble_eq_true rfl) dL_remove_2 ⟨Nat.le_of_ble_eq_true rfl, Nat.le_of_ble_eq_true rfl⟩ [⟨0, 5, 6, 15⟩] ⟨0, 5, 11, 17⟩ [] htab (List.forall_mem_cons.mpr ⟨Or.inr ⟨by decide, _, X.1.2.2.2.2 _ mk0, X.env.2.2.1.1⟩, (fun _ h => absurd h List.not_mem_nil)⟩) rfl (by decide) (X.1.2.2.2.2 _ mk1) (va_Nw.use rfl (X.env.2.1 (.castable xIS xIS) (List.mem_of_getElem? (i := 2) rfl))) (fun H locs q9 hS => ?_)
        refine lv_astore_n (lv' := [(2, .ref q9), (0, .ref (ad q0)), (1, .int a1)]) hx hb dL_remove_11 rfl hl (by decide) rfl (fun ls hl => ?_)
        refine lv_sipush (v := (-2902)) hx hb dL_remove_12 (by decide) ?_
        exact r_iretM X hS hr hlk (by decide) (by decide) dL_remove_15
      · replace h := ie h cc1
        cases h
def f_L_begin (q0 : Nat) (μ : Mem) : Option (Int32 × Mem) := match f_X6_begin q0 μ with
  | some z => some z
  | none => (f_X6_begin_t q0 μ).bind (fun k => if k = 3 then some ((-2902), μ) else none)
set_option maxHeartbeats 4000000 in
set_option maxRecDepth 100000 in
theorem c_L_begin (l : Launch) {D : va_G} {cI cG cL : ClassId} {A : Nat → Prop} {tC tS : Nat} {adE adK adV : Nat → Nat} (hE : EnOK (ENV tC tS adE adK adV A) A) (hst : l.stackTraces = false) {w : Mem → va_W} {ad : Nat → Nat} {q0 : Nat} {μ : Mem} {r : Int32} {μ' : Mem} (hw0 : PGAt cI cG adE w ad q0) (h : f_L_begin q0 μ = some (r, μ')) : Met l yL_begin wsL_begin (rmc 8 1 6 122) (WPre D (tyl cI cG cL) A (ENV tC tS adE adK adV A) (w μ) [.ref (ad q0)]) (PI D A (w μ') r) 1 6 A := by
  have mk0 : Cond.classLink RL 17 xIS ∈ wsL_begin := by decide +kernel
  refine met_startW (cc := cL_begin) (nL := 2) (ret := some .int) (hh := [(0, 4, 5, 17)]) (own := RL) hE (by decide) rfl rfl (Nat.le_of_ble_eq_true rfl) (fun p e s m args below meth c ls X htab hS hl hr hlk => ?_)
  have hx := X.1.1
  have hb := X.1.2.1
  replace hl : lv_has ls 2 [(0, .ref (ad q0))] := hl
  refine lv_aload_n hx hb dL_begin_0 rfl (lv_at hl 0 rfl) ?_
  unfold f_L_begin at h
  cases h1 : f_X6_begin q0 μ with
  | some z =>
    rw [h1] at h
    obtain ⟨z1, z2⟩ := z
    obtain ⟨rfl, rfl⟩ := pr2 h
    refine r_ci hS (r_runV (As := []) (rest := []) X hS (c_X6_begin l hE (w := w) (ad := ad) (μ := μ) (D := D) (cI := cI) (cG := cG) (cL := cL) hw0 h1) (cwV 0 X.1.2.2.2.2 gL_begin_X6_begin rfl rfl rfl (by decide +kernel) ⟨Nat.le_of_ble_eq_true rfl, Nat.le_of_ble_eq_true rfl⟩) (q0 := q0) (ci := 4) rfl (hw0.1 μ).1 rfl hl.1 rfl (Nat.le_of_ble_eq_true rfl) dL_begin_1 ⟨Nat.zero_le _, Nat.zero_le _⟩) (fun H locs hS => ?_)
    exact r_iretM X hS hr hlk (by decide) (by decide) dL_begin_4
  | none =>
    rw [h1] at h
    obtain ⟨k, h2, h⟩ := ob h
    by_cases cc0 : k = 3
    · replace h := it h cc0
      rw [cc0] at h2
      obtain ⟨rfl, rfl⟩ := pr2 h
      refine r_thr (r := 3) (As := []) (rest := []) X hS (t_X6_begin l hE (w := w) (ad := ad) (μ := μ) (D := D) (cI := cI) (cG := cG) (cL := cL) hw0 hst h2) (cwV 0 X.1.2.2.2.2 gL_begin_X6_begin rfl rfl rfl (by decide +kernel) ⟨Nat.le_of_ble_eq_true rfl, Nat.le_of_ble_eq_true rfl⟩) (q0 := q0) (ci := 4) rfl (hw0.1 μ).1 rfl hl.1 rfl (Nat.le_of_ble_eq_true rfl) dL_begin_1 ⟨Nat.le_of_ble_eq_true rfl, Nat.le_of_ble_eq_true rfl⟩ [] ⟨0, 4, 5, 17⟩ [] htab (fun _ h => absurd h List.not_mem_nil) rfl (by decide) (X.1.2.2.2.2 _ mk0) (va_Nw.use rfl (X.env.2.1 (.castable xIS xIS) (List.mem_of_getElem? (i := 2) rfl))) (fun H locs q9 hS => ?_)
      refine lv_astore_n (lv' := [(1, .ref q9), (0, .ref (ad q0))]) hx hb dL_begin_5 rfl hl (by decide) rfl (fun ls hl => ?_)
      refine lv_sipush (v := (-2902)) hx hb dL_begin_6 (by decide) ?_
      exact r_iretM X hS hr hlk (by decide) (by decide) dL_begin_9
    · replace h := ie h cc0
      cases h
def f_L_commit (q0 : Nat) (a1 : Int32) (μ : Mem) : Option (Int32 × Mem) := match f_X6_commit q0 a1 μ with
  | some z => some z
  | none => (f_X6_commit_t q0 a1 μ).bind (fun k => if k = 2 then some ((-2901), μ) else if k = 3 then some ((-2902), μ) else none)
set_option maxHeartbeats 4000000 in
set_option maxRecDepth 100000 in
theorem c_L_commit (l : Launch) {D : va_G} {cI cG cL : ClassId} {A : Nat → Prop} {tC tS : Nat} {adE adK adV : Nat → Nat} (hE : EnOK (ENV tC tS adE adK adV A) A) (hst : l.stackTraces = false) {w : Mem → va_W} {ad : Nat → Nat} {q0 : Nat} {a1 : Int32} {μ : Mem} {r : Int32} {μ' : Mem} (hw0 : PGAt cI cG adE w ad q0) (h : f_L_commit q0 a1 μ = some (r, μ')) : Met l yL_commit wsL_commit (rmc 8 1 6 127) (WPre D (tyl cI cG cL) A (ENV tC tS adE adK adV A) (w μ) [.ref (ad q0), .int a1]) (PI D A (w μ') r) 1 6 A := by
  have mk0 : Cond.classLink RL 15 xIA ∈ wsL_commit := by decide +kernel
  have mk1 : Cond.classLink RL 17 xIS ∈ wsL_commit := by decide +kernel
  refine met_startW (cc := cL_commit) (nL := 3) (ret := some .int) (hh := [(0, 5, 6, 15), (0, 5, 11, 17)]) (own := RL) hE (by decide) rfl rfl (Nat.le_of_ble_eq_true rfl) (fun p e s m args below meth c ls X htab hS hl hr hlk => ?_)
  have hx := X.1.1
  have hb := X.1.2.1
  replace hl : lv_has ls 3 [(0, .ref (ad q0)), (1, .int a1)] := hl
  refine lv_aload_n hx hb dL_commit_0 rfl (lv_at hl 0 rfl) ?_
  refine lv_iload_n hx hb dL_commit_1 rfl (lv_at hl 1 rfl) ?_
  unfold f_L_commit at h
  cases h1 : f_X6_commit q0 a1 μ with
  | some z =>
    rw [h1] at h
    obtain ⟨z1, z2⟩ := z
    obtain ⟨rfl, rfl⟩ := pr2 h
    refine r_ci hS (r_runV (As := [.int a1]) (rest := []) X hS (c_X6_commit l hE (w := w) (ad := ad) (μ := μ) (D := D) (cI := cI) (cG := cG) (cL := cL) hw0 h1) (cwV 1 X.1.2.2.2.2 gL_commit_X6_commit rfl rfl rfl (by decide +kernel) ⟨Nat.le_of_ble_eq_true rfl, Nat.le_of_ble_eq_true rfl⟩) (q0 := q0) (ci := 4) rfl (hw0.1 μ).1 rfl hl.1 rfl (Nat.le_of_ble_eq_true rfl) dL_commit_2 ⟨Nat.zero_le _, Nat.zero_le _⟩) (fun H locs hS => ?_)
    exact r_iretM X hS hr hlk (by decide) (by decide) dL_commit_5
  | none =>
    rw [h1] at h
    obtain ⟨k, h2, h⟩ := ob h
    by_cases cc0 : k = 2
    · replace h := it h cc0
      rw [cc0] at h2
      obtain ⟨rfl, rfl⟩ := pr2 h
      refine r_thr (r := 2) (As := [.int a1]) (rest := []) X hS (t_X6_commit l hE (w := w) (ad := ad) (μ := μ) (D := D) (cI := cI) (cG := cG) (cL := cL) hw0 hst h2) (cwV 1 X.1.2.2.2.2 gL_commit_X6_commit rfl rfl rfl (by decide +kernel) ⟨Nat.le_of_ble_eq_true rfl, Nat.le_of_ble_eq_true rfl⟩) (q0 := q0) (ci := 4) rfl (hw0.1 μ).1 rfl hl.1 rfl (Nat.le_of_ble_eq_true rfl) dL_commit_2 ⟨Nat.le_of_ble_eq_true rfl, Nat.le_of_ble_eq_true rfl⟩ [] ⟨0, 5, 6, 15⟩ [⟨0, 5, 11, 17⟩] htab (fun _ h => absurd h List.not_mem_nil) rfl (by decide) (X.1.2.2.2.2 _ mk0) (va_Nw.use rfl (X.env.2.1 (.castable xIA xIA) (List.mem_of_getElem? (i := 1) rfl))) (fun H locs q9 hS => ?_)
      refine lv_astore_n (lv' := [(2, .ref q9), (0, .ref (ad q0)), (1, .int a1)]) hx hb dL_commit_6 rfl hl (by decide) rfl (fun ls hl => ?_)
      refine lv_sipush (v := (-2901)) hx hb dL_commit_7 (by decide) ?_
      exact r_iretM X hS hr hlk (by decide) (by decide) dL_commit_10
    · replace h := ie h cc0
      by_cases cc1 : k = 3
      · replace h := it h cc1
        rw [cc1] at h2
        obtain ⟨rfl, rfl⟩ := pr2 h
        refine r_thr (r := 3) (As := [.int a1]) (rest := []) X hS (t_X6_commit l hE (w := w) (ad := ad) (μ := μ) (D := D) (cI := cI) (cG := cG) (cL := cL) hw0 hst h2) (cwV 1 X.1.2.2.2.2 gL_commit_X6_commit rfl rfl rfl (by decide +kernel) ⟨Nat.le_of_ble_eq_true rfl, Nat.le_of_ble_eq_true rfl⟩) (q0 := q0) (ci := 4) rfl (hw0.1 μ).1 rfl hl.1 rfl (Nat.le_of_ble_eq_true rfl) dL_commit_2 ⟨Nat.le_of_ble_eq_true rfl, Nat.le_of_ble_eq_true rfl⟩ [⟨0, 5, 6, 15⟩] ⟨0, 5, 11, 17⟩ [] htab (List.forall_mem_cons.mpr ⟨Or.inr ⟨by decide, _, X.1.2.2.2.2 _ mk0, X.env.2.2.1.1⟩, (fun _ h => absurd h List.not_mem_nil)⟩) rfl (by decide) (X.1.2.2.2.2 _ mk1) (va_Nw.use rfl (X.env.2.1 (.castable xIS xIS) (List.mem_of_getElem? (i := 2) rfl))) (fun H locs q9 hS => ?_)
        refine lv_astore_n (lv' := [(2, .ref q9), (0, .ref (ad q0)), (1, .int a1)]) hx hb dL_commit_11 rfl hl (by decide) rfl (fun ls hl => ?_)
        refine lv_sipush (v := (-2902)) hx hb dL_commit_12 (by decide) ?_
        exact r_iretM X hS hr hlk (by decide) (by decide) dL_commit_15
      · replace h := ie h cc1
        cases h
def f_L_abort (q0 : Nat) (μ : Mem) : Option (Int32 × Mem) := match f_X6_abort q0 μ with
  | some z => some z
  | none => (f_X6_abort_t q0 μ).bind (fun k => if k = 3 then some ((-2902), μ) else none)
set_option maxHeartbeats 4000000 in
set_option maxRecDepth 100000 in
theorem c_L_abort (l : Launch) {D : va_G} {cI cG cL : ClassId} {A : Nat → Prop} {tC tS : Nat} {adE adK adV : Nat → Nat} (hE : EnOK (ENV tC tS adE adK adV A) A) (hst : l.stackTraces = false) {w : Mem → va_W} {ad : Nat → Nat} {q0 : Nat} {μ : Mem} {r : Int32} {μ' : Mem} (hw0 : PGAt cI cG adE w ad q0) (h : f_L_abort q0 μ = some (r, μ')) : Met l yL_abort wsL_abort (rmc 8 1 6 122) (WPre D (tyl cI cG cL) A (ENV tC tS adE adK adV A) (w μ) [.ref (ad q0)]) (PI D A (w μ') r) 1 6 A := by
  have mk0 : Cond.classLink RL 17 xIS ∈ wsL_abort := by decide +kernel
  refine met_startW (cc := cL_abort) (nL := 2) (ret := some .int) (hh := [(0, 4, 5, 17)]) (own := RL) hE (by decide) rfl rfl (Nat.le_of_ble_eq_true rfl) (fun p e s m args below meth c ls X htab hS hl hr hlk => ?_)
  have hx := X.1.1
  have hb := X.1.2.1
  replace hl : lv_has ls 2 [(0, .ref (ad q0))] := hl
  refine lv_aload_n hx hb dL_abort_0 rfl (lv_at hl 0 rfl) ?_
  unfold f_L_abort at h
  cases h1 : f_X6_abort q0 μ with
  | some z =>
    rw [h1] at h
    obtain ⟨z1, z2⟩ := z
    obtain ⟨rfl, rfl⟩ := pr2 h
    refine r_ci hS (r_runV (As := []) (rest := []) X hS (c_X6_abort l hE (w := w) (ad := ad) (μ := μ) (D := D) (cI := cI) (cG := cG) (cL := cL) hw0 h1) (cwV 0 X.1.2.2.2.2 gL_abort_X6_abort rfl rfl rfl (by decide +kernel) ⟨Nat.le_of_ble_eq_true rfl, Nat.le_of_ble_eq_true rfl⟩) (q0 := q0) (ci := 4) rfl (hw0.1 μ).1 rfl hl.1 rfl (Nat.le_of_ble_eq_true rfl) dL_abort_1 ⟨Nat.zero_le _, Nat.zero_le _⟩) (fun H locs hS => ?_)
    exact r_iretM X hS hr hlk (by decide) (by decide) dL_abort_4
  | none =>
    rw [h1] at h
    obtain ⟨k, h2, h⟩ := ob h
    by_cases cc0 : k = 3
    · replace h := it h cc0
      rw [cc0] at h2
      obtain ⟨rfl, rfl⟩ := pr2 h
      refine r_thr (r := 3) (As := []) (rest := []) X hS (t_X6_abort l hE (w := w) (ad := ad) (μ := μ) (D := D) (cI := cI) (cG := cG) (cL := cL) hw0 hst h2) (cwV 0 X.1.2.2.2.2 gL_abort_X6_abort rfl rfl rfl (by decide +kernel) ⟨Nat.le_of_ble_eq_true rfl, Nat.le_of_ble_eq_true rfl⟩) (q0 := q0) (ci := 4) rfl (hw0.1 μ).1 rfl hl.1 rfl (Nat.le_of_ble_eq_true rfl) dL_abort_1 ⟨Nat.le_of_ble_eq_true rfl, Nat.le_of_ble_eq_true rfl⟩ [] ⟨0, 4, 5, 17⟩ [] htab (fun _ h => absurd h List.not_mem_nil) rfl (by decide) (X.1.2.2.2.2 _ mk0) (va_Nw.use rfl (X.env.2.1 (.castable xIS xIS) (List.mem_of_getElem? (i := 2) rfl))) (fun H locs q9 hS => ?_)
      refine lv_astore_n (lv' := [(1, .ref q9), (0, .ref (ad q0))]) hx hb dL_abort_5 rfl hl (by decide) rfl (fun ls hl => ?_)
      refine lv_sipush (v := (-2902)) hx hb dL_abort_6 (by decide) ?_
      exact r_iretM X hS hr hlk (by decide) (by decide) dL_abort_9
    · replace h := ie h cc0
      cases h
def f_L_open (q0 : Nat) (μ : Mem) : Option (Int32 × Mem) := match f_X6_open q0 μ with
  | some z => some z
  | none => (f_X6_open_t q0 μ).bind (fun k => if k = 3 then some ((-2902), μ) else none)
set_option maxHeartbeats 4000000 in
set_option maxRecDepth 100000 in
theorem c_L_open (l : Launch) {D : va_G} {cI cG cL : ClassId} {A : Nat → Prop} {tC tS : Nat} {adE adK adV : Nat → Nat} (hE : EnOK (ENV tC tS adE adK adV A) A) (hst : l.stackTraces = false) {w : Mem → va_W} {ad : Nat → Nat} {q0 : Nat} {μ : Mem} {r : Int32} {μ' : Mem} (hw0 : PGAt cI cG adE w ad q0) (h : f_L_open q0 μ = some (r, μ')) : Met l yL_open wsL_open (rmc 8 1 6 122) (WPre D (tyl cI cG cL) A (ENV tC tS adE adK adV A) (w μ) [.ref (ad q0)]) (PI D A (w μ') r) 1 6 A := by
  have mk0 : Cond.classLink RL 17 xIS ∈ wsL_open := by decide +kernel
  refine met_startW (cc := cL_open) (nL := 2) (ret := some .int) (hh := [(0, 4, 5, 17)]) (own := RL) hE (by decide) rfl rfl (Nat.le_of_ble_eq_true rfl) (fun p e s m args below meth c ls X htab hS hl hr hlk => ?_)
  have hx := X.1.1
  have hb := X.1.2.1
  replace hl : lv_has ls 2 [(0, .ref (ad q0))] := hl
  refine lv_aload_n hx hb dL_open_0 rfl (lv_at hl 0 rfl) ?_
  unfold f_L_open at h
  cases h1 : f_X6_open q0 μ with
  | some z =>
    rw [h1] at h
    obtain ⟨z1, z2⟩ := z
    obtain ⟨rfl, rfl⟩ := pr2 h
    refine r_ci hS (r_runV (As := []) (rest := []) X hS (c_X6_open l hE (w := w) (ad := ad) (μ := μ) (D := D) (cI := cI) (cG := cG) (cL := cL) hw0 h1) (cwV 0 X.1.2.2.2.2 gL_open_X6_open rfl rfl rfl (by decide +kernel) ⟨Nat.le_of_ble_eq_true rfl, Nat.le_of_ble_eq_true rfl⟩) (q0 := q0) (ci := 4) rfl (hw0.1 μ).1 rfl hl.1 rfl (Nat.le_of_ble_eq_true rfl) dL_open_1 ⟨Nat.zero_le _, Nat.zero_le _⟩) (fun H locs hS => ?_)
    exact r_iretM X hS hr hlk (by decide) (by decide) dL_open_4
  | none =>
    rw [h1] at h
    obtain ⟨k, h2, h⟩ := ob h
    by_cases cc0 : k = 3
    · replace h := it h cc0
      rw [cc0] at h2
      obtain ⟨rfl, rfl⟩ := pr2 h
      refine r_thr (r := 3) (As := []) (rest := []) X hS (t_X6_open l hE (w := w) (ad := ad) (μ := μ) (D := D) (cI := cI) (cG := cG) (cL := cL) hw0 hst h2) (cwV 0 X.1.2.2.2.2 gL_open_X6_open rfl rfl rfl (by decide +kernel) ⟨Nat.le_of_ble_eq_true rfl, Nat.le_of_ble_eq_true rfl⟩) (q0 := q0) (ci := 4) rfl (hw0.1 μ).1 rfl hl.1 rfl (Nat.le_of_ble_eq_true rfl) dL_open_1 ⟨Nat.le_of_ble_eq_true rfl, Nat.le_of_ble_eq_true rfl⟩ [] ⟨0, 4, 5, 17⟩ [] htab (fun _ h => absurd h List.not_mem_nil) rfl (by decide) (X.1.2.2.2.2 _ mk0) (va_Nw.use rfl (X.env.2.1 (.castable xIS xIS) (List.mem_of_getElem? (i := 2) rfl))) (fun H locs q9 hS => ?_)
      refine lv_astore_n (lv' := [(1, .ref q9), (0, .ref (ad q0))]) hx hb dL_open_5 rfl hl (by decide) rfl (fun ls hl => ?_)
      refine lv_sipush (v := (-2902)) hx hb dL_open_6 (by decide) ?_
      exact r_iretM X hS hr hlk (by decide) (by decide) dL_open_9
    · replace h := ie h cc0
      cases h
def f_L_close (q0 : Nat) (a1 : Int32) (μ : Mem) : Option (Int32 × Mem) := match f_X6_close q0 a1 μ with
  | some z => some z
  | none => (f_X6_close_t q0 a1 μ).bind (fun k => if k = 1 then some ((-2903), μ) else if k = 3 then some ((-2902), μ) else none)
set_option maxHeartbeats 4000000 in
set_option maxRecDepth 100000 in
theorem c_L_close (l : Launch) {D : va_G} {cI cG cL : ClassId} {A : Nat → Prop} {tC tS : Nat} {adE adK adV : Nat → Nat} (hE : EnOK (ENV tC tS adE adK adV A) A) (hst : l.stackTraces = false) {w : Mem → va_W} {ad : Nat → Nat} {q0 : Nat} {a1 : Int32} {μ : Mem} {r : Int32} {μ' : Mem} (hw0 : PGAt cI cG adE w ad q0) (h : f_L_close q0 a1 μ = some (r, μ')) : Met l yL_close wsL_close (rmc 8 1 6 123) (WPre D (tyl cI cG cL) A (ENV tC tS adE adK adV A) (w μ) [.ref (ad q0), .int a1]) (PI D A (w μ') r) 1 6 A := by
  have mk0 : Cond.classLink RL 39 xIO ∈ wsL_close := by decide +kernel
  have mk1 : Cond.classLink RL 17 xIS ∈ wsL_close := by decide +kernel
  refine met_startW (cc := cL_close) (nL := 3) (ret := some .int) (hh := [(0, 5, 6, 39), (0, 5, 11, 17)]) (own := RL) hE (by decide) rfl rfl (Nat.le_of_ble_eq_true rfl) (fun p e s m args below meth c ls X htab hS hl hr hlk => ?_)
  have hx := X.1.1
  have hb := X.1.2.1
  replace hl : lv_has ls 3 [(0, .ref (ad q0)), (1, .int a1)] := hl
  refine lv_aload_n hx hb dL_close_0 rfl (lv_at hl 0 rfl) ?_
  refine lv_iload_n hx hb dL_close_1 rfl (lv_at hl 1 rfl) ?_
  unfold f_L_close at h
  cases h1 : f_X6_close q0 a1 μ with
  | some z =>
    rw [h1] at h
    obtain ⟨z1, z2⟩ := z
    obtain ⟨rfl, rfl⟩ := pr2 h
    refine r_ci hS (r_runV (As := [.int a1]) (rest := []) X hS (c_X6_close l hE (w := w) (ad := ad) (μ := μ) (D := D) (cI := cI) (cG := cG) (cL := cL) hw0 h1) (cwV 1 X.1.2.2.2.2 gL_close_X6_close rfl rfl rfl (by decide +kernel) ⟨Nat.le_of_ble_eq_true rfl, Nat.le_of_ble_eq_true rfl⟩) (q0 := q0) (ci := 4) rfl (hw0.1 μ).1 rfl hl.1 rfl (Nat.le_of_ble_eq_true rfl) dL_close_2 ⟨Nat.zero_le _, Nat.zero_le _⟩) (fun H locs hS => ?_)
    exact r_iretM X hS hr hlk (by decide) (by decide) dL_close_5
  | none =>
    rw [h1] at h
    obtain ⟨k, h2, h⟩ := ob h
    by_cases cc0 : k = 1
    · replace h := it h cc0
      rw [cc0] at h2
      obtain ⟨rfl, rfl⟩ := pr2 h
      refine r_thr (r := 1) (As := [.int a1]) (rest := []) X hS (t_X6_close l hE (w := w) (ad := ad) (μ := μ) (D := D) (cI := cI) (cG := cG) (cL := cL) hw0 hst h2) (cwV 1 X.1.2.2.2.2 gL_close_X6_close rfl rfl rfl (by decide +kernel) ⟨Nat.le_of_ble_eq_true rfl, Nat.le_of_ble_eq_true rfl⟩) (q0 := q0) (ci := 4) rfl (hw0.1 μ).1 rfl hl.1 rfl (Nat.le_of_ble_eq_true rfl) dL_close_2 ⟨Nat.le_of_ble_eq_true rfl, Nat.le_of_ble_eq_true rfl⟩ [] ⟨0, 5, 6, 39⟩ [⟨0, 5, 11, 17⟩] htab (fun _ h => absurd h List.not_mem_nil) rfl (by decide) (X.1.2.2.2.2 _ mk0) (va_Nw.use rfl (X.env.2.1 (.castable xIO xIO) (List.mem_of_getElem? (i := 0) rfl))) (fun H locs q9 hS => ?_)
      refine lv_astore_n (lv' := [(2, .ref q9), (0, .ref (ad q0)), (1, .int a1)]) hx hb dL_close_6 rfl hl (by decide) rfl (fun ls hl => ?_)
      refine lv_sipush (v := (-2903)) hx hb dL_close_7 (by decide) ?_
      exact r_iretM X hS hr hlk (by decide) (by decide) dL_close_10
    · replace h := ie h cc0
      by_cases cc1 : k = 3
      · replace h := it h cc1
        rw [cc1] at h2
        obtain ⟨rfl, rfl⟩ := pr2 h
        refine r_thr (r := 3) (As := [.int a1]) (rest := []) X hS (t_X6_close l hE (w := w) (ad := ad) (μ := μ) (D := D) (cI := cI) (cG := cG) (cL := cL) hw0 hst h2) (cwV 1 X.1.2.2.2.2 gL_close_X6_close rfl rfl rfl (by decide +kernel) ⟨Nat.le_of_ble_eq_true rfl, Nat.le_of_ble_eq_true rfl⟩) (q0 := q0) (ci := 4) rfl (hw0.1 μ).1 rfl hl.1 rfl (Nat.le_of_ble_eq_true rfl) dL_close_2 ⟨Nat.le_of_ble_eq_true rfl, Nat.le_of_ble_eq_true rfl⟩ [⟨0, 5, 6, 39⟩] ⟨0, 5, 11, 17⟩ [] htab (List.forall_mem_cons.mpr ⟨Or.inr ⟨by decide, _, X.1.2.2.2.2 _ mk0, X.env.2.2.1.2.1⟩, (fun _ h => absurd h List.not_mem_nil)⟩) rfl (by decide) (X.1.2.2.2.2 _ mk1) (va_Nw.use rfl (X.env.2.1 (.castable xIS xIS) (List.mem_of_getElem? (i := 2) rfl))) (fun H locs q9 hS => ?_)
        refine lv_astore_n (lv' := [(2, .ref q9), (0, .ref (ad q0)), (1, .int a1)]) hx hb dL_close_11 rfl hl (by decide) rfl (fun ls hl => ?_)
        refine lv_sipush (v := (-2902)) hx hb dL_close_12 (by decide) ?_
        exact r_iretM X hS hr hlk (by decide) (by decide) dL_close_15
      · replace h := ie h cc1
        cases h
def f_L_read (q0 : Nat) (a1 : Int32) (a2 : Int32) (μ : Mem) : Option Int32 := match f_X6_read q0 a1 a2 μ with
  | some z => some z
  | none => (f_X6_read_t q0 a1 a2 μ).bind (fun k => if k = 1 then some (-2903) else if k = 2 then some (-2901) else if k = 3 then some (-2902) else none)
set_option maxHeartbeats 4000000 in
set_option maxRecDepth 100000 in
theorem c_L_read (l : Launch) {D : va_G} {cI cG cL : ClassId} {A : Nat → Prop} {tC tS : Nat} {adE adK adV : Nat → Nat} (hE : EnOK (ENV tC tS adE adK adV A) A) (hst : l.stackTraces = false) {w : Mem → va_W} {ad : Nat → Nat} {q0 : Nat} {a1 : Int32} {a2 : Int32} {μ : Mem} {r : Int32} (hw0 : PGAt cI cG adE w ad q0) (h : f_L_read q0 a1 a2 μ = some r) : Met l yL_read wsL_read (rmc 8 1 6 124) (WPre D (tyl cI cG cL) A (ENV tC tS adE adK adV A) (w μ) [.ref (ad q0), .int a1, .int a2]) (PI D A (w μ) r) 1 6 A := by
  have mk0 : Cond.classLink RL 39 xIO ∈ wsL_read := by decide +kernel
  have mk1 : Cond.classLink RL 15 xIA ∈ wsL_read := by decide +kernel
  have mk2 : Cond.classLink RL 17 xIS ∈ wsL_read := by decide +kernel
  refine met_startW (cc := cL_read) (nL := 4) (ret := some .int) (hh := [(0, 6, 7, 39), (0, 6, 12, 15), (0, 6, 17, 17)]) (own := RL) hE (by decide) rfl rfl (Nat.le_of_ble_eq_true rfl) (fun p e s m args below meth c ls X htab hS hl hr hlk => ?_)
  have hx := X.1.1
  have hb := X.1.2.1
  replace hl : lv_has ls 4 [(0, .ref (ad q0)), (1, .int a1), (2, .int a2)] := hl
  refine lv_aload_n hx hb dL_read_0 rfl (lv_at hl 0 rfl) ?_
  refine lv_iload_n hx hb dL_read_1 rfl (lv_at hl 1 rfl) ?_
  refine lv_iload_n hx hb dL_read_2 rfl (lv_at hl 2 rfl) ?_
  unfold f_L_read at h
  cases h1 : f_X6_read q0 a1 a2 μ with
  | some z =>
    rw [h1] at h
    cases h
    refine r_ci hS (r_runV (As := [.int a1, .int a2]) (rest := []) X hS (c_X6_read l hE (w := w) (ad := ad) (μ := μ) (D := D) (cI := cI) (cG := cG) (cL := cL) hw0 h1) (cwV 2 X.1.2.2.2.2 gL_read_X6_read rfl rfl rfl (by decide +kernel) ⟨Nat.le_of_ble_eq_true rfl, Nat.le_of_ble_eq_true rfl⟩) (q0 := q0) (ci := 4) rfl (hw0.1 μ).1 rfl hl.1 rfl (Nat.le_of_ble_eq_true rfl) dL_read_3 ⟨Nat.zero_le _, Nat.zero_le _⟩) (fun H locs hS => ?_)
    exact r_iretM X hS hr hlk (by decide) (by decide) dL_read_6
  | none =>
    rw [h1] at h
    obtain ⟨k, h2, h⟩ := ob h
    by_cases cc0 : k = 1
    · replace h := it h cc0
      rw [cc0] at h2
      cases h
      refine r_thr (r := 1) (As := [.int a1, .int a2]) (rest := []) X hS (t_X6_read l hE (w := w) (ad := ad) (μ := μ) (D := D) (cI := cI) (cG := cG) (cL := cL) hw0 hst h2) (cwV 2 X.1.2.2.2.2 gL_read_X6_read rfl rfl rfl (by decide +kernel) ⟨Nat.le_of_ble_eq_true rfl, Nat.le_of_ble_eq_true rfl⟩) (q0 := q0) (ci := 4) rfl (hw0.1 μ).1 rfl hl.1 rfl (Nat.le_of_ble_eq_true rfl) dL_read_3 ⟨Nat.le_of_ble_eq_true rfl, Nat.le_of_ble_eq_true rfl⟩ [] ⟨0, 6, 7, 39⟩ [⟨0, 6, 12, 15⟩, ⟨0, 6, 17, 17⟩] htab (fun _ h => absurd h List.not_mem_nil) rfl (by decide) (X.1.2.2.2.2 _ mk0) (va_Nw.use rfl (X.env.2.1 (.castable xIO xIO) (List.mem_of_getElem? (i := 0) rfl))) (fun H locs q9 hS => ?_)
      refine lv_astore_n (lv' := [(3, .ref q9), (0, .ref (ad q0)), (1, .int a1), (2, .int a2)]) hx hb dL_read_7 rfl hl (by decide) rfl (fun ls hl => ?_)
      refine lv_sipush (v := (-2903)) hx hb dL_read_8 (by decide) ?_
      exact r_iretM X hS hr hlk (by decide) (by decide) dL_read_11
    · replace h := ie h cc0
      by_cases cc1 : k = 2
      · replace h := it h cc1
        rw [cc1] at h2
        cases h
        refine r_thr (r := 2) (As := [.int a1, .int a2]) (rest := []) X hS (t_X6_read l hE (w := w) (ad := ad) (μ := μ) (D := D) (cI := cI) (cG := cG) (cL := cL) hw0 hst h2) (cwV 2 X.1.2.2.2.2 gL_read_X6_read rfl rfl rfl (by decide +kernel) ⟨Nat.le_of_ble_eq_true rfl, Nat.le_of_ble_eq_true rfl⟩) (q0 := q0) (ci := 4) rfl (hw0.1 μ).1 rfl hl.1 rfl (Nat.le_of_ble_eq_true rfl) dL_read_3 ⟨Nat.le_of_ble_eq_true rfl, Nat.le_of_ble_eq_true rfl⟩ [⟨0, 6, 7, 39⟩] ⟨0, 6, 12, 15⟩ [⟨0, 6, 17, 17⟩] htab (List.forall_mem_cons.mpr ⟨Or.inr ⟨by decide, _, X.1.2.2.2.2 _ mk0, X.env.2.2.1.2.2⟩, (fun _ h => absurd h List.not_mem_nil)⟩) rfl (by decide) (X.1.2.2.2.2 _ mk1) (va_Nw.use rfl (X.env.2.1 (.castable xIA xIA) (List.mem_of_getElem? (i := 1) rfl))) (fun H locs q9 hS => ?_)
        refine lv_astore_n (lv' := [(3, .ref q9), (0, .ref (ad q0)), (1, .int a1), (2, .int a2)]) hx hb dL_read_12 rfl hl (by decide) rfl (fun ls hl => ?_)
        refine lv_sipush (v := (-2901)) hx hb dL_read_13 (by decide) ?_
        exact r_iretM X hS hr hlk (by decide) (by decide) dL_read_16
      · replace h := ie h cc1
        by_cases cc2 : k = 3
        · replace h := it h cc2
          rw [cc2] at h2
          cases h
          refine r_thr (r := 3) (As := [.int a1, .int a2]) (rest := []) X hS (t_X6_read l hE (w := w) (ad := ad) (μ := μ) (D := D) (cI := cI) (cG := cG) (cL := cL) hw0 hst h2) (cwV 2 X.1.2.2.2.2 gL_read_X6_read rfl rfl rfl (by decide +kernel) ⟨Nat.le_of_ble_eq_true rfl, Nat.le_of_ble_eq_true rfl⟩) (q0 := q0) (ci := 4) rfl (hw0.1 μ).1 rfl hl.1 rfl (Nat.le_of_ble_eq_true rfl) dL_read_3 ⟨Nat.le_of_ble_eq_true rfl, Nat.le_of_ble_eq_true rfl⟩ [⟨0, 6, 7, 39⟩, ⟨0, 6, 12, 15⟩] ⟨0, 6, 17, 17⟩ [] htab (List.forall_mem_cons.mpr ⟨Or.inr ⟨by decide, _, X.1.2.2.2.2 _ mk0, X.env.2.2.1.2.1⟩, (List.forall_mem_cons.mpr ⟨Or.inr ⟨by decide, _, X.1.2.2.2.2 _ mk1, X.env.2.2.1.1⟩, (fun _ h => absurd h List.not_mem_nil)⟩)⟩) rfl (by decide) (X.1.2.2.2.2 _ mk2) (va_Nw.use rfl (X.env.2.1 (.castable xIS xIS) (List.mem_of_getElem? (i := 2) rfl))) (fun H locs q9 hS => ?_)
          refine lv_astore_n (lv' := [(3, .ref q9), (0, .ref (ad q0)), (1, .int a1), (2, .int a2)]) hx hb dL_read_17 rfl hl (by decide) rfl (fun ls hl => ?_)
          refine lv_sipush (v := (-2902)) hx hb dL_read_18 (by decide) ?_
          exact r_iretM X hS hr hlk (by decide) (by decide) dL_read_21
        · replace h := ie h cc2
          cases h
def f_L_drafted (q0 : Nat) (a1 : Int32) (μ : Mem) : Option Int32 := match f_X6_drafted q0 a1 μ with
  | some z => some z
  | none => (f_X6_drafted_t q0 a1 μ).bind (fun k => if k = 2 then some (-2901) else if k = 3 then some (-2902) else none)
set_option maxHeartbeats 4000000 in
set_option maxRecDepth 100000 in
theorem c_L_drafted (l : Launch) {D : va_G} {cI cG cL : ClassId} {A : Nat → Prop} {tC tS : Nat} {adE adK adV : Nat → Nat} (hE : EnOK (ENV tC tS adE adK adV A) A) (hst : l.stackTraces = false) {w : Mem → va_W} {ad : Nat → Nat} {q0 : Nat} {a1 : Int32} {μ : Mem} {r : Int32} (hw0 : PGAt cI cG adE w ad q0) (h : f_L_drafted q0 a1 μ = some r) : Met l yL_drafted wsL_drafted (rmc 8 1 6 123) (WPre D (tyl cI cG cL) A (ENV tC tS adE adK adV A) (w μ) [.ref (ad q0), .int a1]) (PI D A (w μ) r) 1 6 A := by
  have mk0 : Cond.classLink RL 15 xIA ∈ wsL_drafted := by decide +kernel
  have mk1 : Cond.classLink RL 17 xIS ∈ wsL_drafted := by decide +kernel
  refine met_startW (cc := cL_drafted) (nL := 3) (ret := some .int) (hh := [(0, 5, 6, 15), (0, 5, 11, 17)]) (own := RL) hE (by decide) rfl rfl (Nat.le_of_ble_eq_true rfl) (fun p e s m args below meth c ls X htab hS hl hr hlk => ?_)
  have hx := X.1.1
  have hb := X.1.2.1
  replace hl : lv_has ls 3 [(0, .ref (ad q0)), (1, .int a1)] := hl
  refine lv_aload_n hx hb dL_drafted_0 rfl (lv_at hl 0 rfl) ?_
  refine lv_iload_n hx hb dL_drafted_1 rfl (lv_at hl 1 rfl) ?_
  unfold f_L_drafted at h
  cases h1 : f_X6_drafted q0 a1 μ with
  | some z =>
    rw [h1] at h
    cases h
    refine r_ci hS (r_runV (As := [.int a1]) (rest := []) X hS (c_X6_drafted l hE (w := w) (ad := ad) (μ := μ) (D := D) (cI := cI) (cG := cG) (cL := cL) hw0 h1) (cwV 1 X.1.2.2.2.2 gL_drafted_X6_drafted rfl rfl rfl (by decide +kernel) ⟨Nat.le_of_ble_eq_true rfl, Nat.le_of_ble_eq_true rfl⟩) (q0 := q0) (ci := 4) rfl (hw0.1 μ).1 rfl hl.1 rfl (Nat.le_of_ble_eq_true rfl) dL_drafted_2 ⟨Nat.zero_le _, Nat.zero_le _⟩) (fun H locs hS => ?_)
    exact r_iretM X hS hr hlk (by decide) (by decide) dL_drafted_5
  | none =>
    rw [h1] at h
    obtain ⟨k, h2, h⟩ := ob h
    by_cases cc0 : k = 2
    · replace h := it h cc0
      rw [cc0] at h2
      cases h
      refine r_thr (r := 2) (As := [.int a1]) (rest := []) X hS (t_X6_drafted l hE (w := w) (ad := ad) (μ := μ) (D := D) (cI := cI) (cG := cG) (cL := cL) hw0 hst h2) (cwV 1 X.1.2.2.2.2 gL_drafted_X6_drafted rfl rfl rfl (by decide +kernel) ⟨Nat.le_of_ble_eq_true rfl, Nat.le_of_ble_eq_true rfl⟩) (q0 := q0) (ci := 4) rfl (hw0.1 μ).1 rfl hl.1 rfl (Nat.le_of_ble_eq_true rfl) dL_drafted_2 ⟨Nat.le_of_ble_eq_true rfl, Nat.le_of_ble_eq_true rfl⟩ [] ⟨0, 5, 6, 15⟩ [⟨0, 5, 11, 17⟩] htab (fun _ h => absurd h List.not_mem_nil) rfl (by decide) (X.1.2.2.2.2 _ mk0) (va_Nw.use rfl (X.env.2.1 (.castable xIA xIA) (List.mem_of_getElem? (i := 1) rfl))) (fun H locs q9 hS => ?_)
      refine lv_astore_n (lv' := [(2, .ref q9), (0, .ref (ad q0)), (1, .int a1)]) hx hb dL_drafted_6 rfl hl (by decide) rfl (fun ls hl => ?_)
      refine lv_sipush (v := (-2901)) hx hb dL_drafted_7 (by decide) ?_
      exact r_iretM X hS hr hlk (by decide) (by decide) dL_drafted_10
    · replace h := ie h cc0
      by_cases cc1 : k = 3
      · replace h := it h cc1
        rw [cc1] at h2
        cases h
        refine r_thr (r := 3) (As := [.int a1]) (rest := []) X hS (t_X6_drafted l hE (w := w) (ad := ad) (μ := μ) (D := D) (cI := cI) (cG := cG) (cL := cL) hw0 hst h2) (cwV 1 X.1.2.2.2.2 gL_drafted_X6_drafted rfl rfl rfl (by decide +kernel) ⟨Nat.le_of_ble_eq_true rfl, Nat.le_of_ble_eq_true rfl⟩) (q0 := q0) (ci := 4) rfl (hw0.1 μ).1 rfl hl.1 rfl (Nat.le_of_ble_eq_true rfl) dL_drafted_2 ⟨Nat.le_of_ble_eq_true rfl, Nat.le_of_ble_eq_true rfl⟩ [⟨0, 5, 6, 15⟩] ⟨0, 5, 11, 17⟩ [] htab (List.forall_mem_cons.mpr ⟨Or.inr ⟨by decide, _, X.1.2.2.2.2 _ mk0, X.env.2.2.1.1⟩, (fun _ h => absurd h List.not_mem_nil)⟩) rfl (by decide) (X.1.2.2.2.2 _ mk1) (va_Nw.use rfl (X.env.2.1 (.castable xIS xIS) (List.mem_of_getElem? (i := 2) rfl))) (fun H locs q9 hS => ?_)
        refine lv_astore_n (lv' := [(2, .ref q9), (0, .ref (ad q0)), (1, .int a1)]) hx hb dL_drafted_11 rfl hl (by decide) rfl (fun ls hl => ?_)
        refine lv_sipush (v := (-2902)) hx hb dL_drafted_12 (by decide) ?_
        exact r_iretM X hS hr hlk (by decide) (by decide) dL_drafted_15
      · replace h := ie h cc1
        cases h
def f_L_reason (q0 : Nat) (a1 : Int32) (μ : Mem) : Option Int32 := match f_X6_reason q0 a1 μ with
  | some z => some z
  | none => (f_X6_reason_t q0 a1 μ).bind (fun k => if k = 2 then some (-2901) else if k = 3 then some (-2902) else none)
set_option maxHeartbeats 4000000 in
set_option maxRecDepth 100000 in
theorem c_L_reason (l : Launch) {D : va_G} {cI cG cL : ClassId} {A : Nat → Prop} {tC tS : Nat} {adE adK adV : Nat → Nat} (hE : EnOK (ENV tC tS adE adK adV A) A) (hst : l.stackTraces = false) {w : Mem → va_W} {ad : Nat → Nat} {q0 : Nat} {a1 : Int32} {μ : Mem} {r : Int32} (hw0 : PGAt cI cG adE w ad q0) (h : f_L_reason q0 a1 μ = some r) : Met l yL_reason wsL_reason (rmc 8 1 6 127) (WPre D (tyl cI cG cL) A (ENV tC tS adE adK adV A) (w μ) [.ref (ad q0), .int a1]) (PI D A (w μ) r) 1 6 A := by
  have mk0 : Cond.classLink RL 15 xIA ∈ wsL_reason := by decide +kernel
  have mk1 : Cond.classLink RL 17 xIS ∈ wsL_reason := by decide +kernel
  refine met_startW (cc := cL_reason) (nL := 3) (ret := some .int) (hh := [(0, 5, 6, 15), (0, 5, 11, 17)]) (own := RL) hE (by decide) rfl rfl (Nat.le_of_ble_eq_true rfl) (fun p e s m args below meth c ls X htab hS hl hr hlk => ?_)
  have hx := X.1.1
  have hb := X.1.2.1
  replace hl : lv_has ls 3 [(0, .ref (ad q0)), (1, .int a1)] := hl
  refine lv_aload_n hx hb dL_reason_0 rfl (lv_at hl 0 rfl) ?_
  refine lv_iload_n hx hb dL_reason_1 rfl (lv_at hl 1 rfl) ?_
  unfold f_L_reason at h
  cases h1 : f_X6_reason q0 a1 μ with
  | some z =>
    rw [h1] at h
    cases h
    refine r_ci hS (r_runV (As := [.int a1]) (rest := []) X hS (c_X6_reason l hE (w := w) (ad := ad) (μ := μ) (D := D) (cI := cI) (cG := cG) (cL := cL) hw0 h1) (cwV 1 X.1.2.2.2.2 gL_reason_X6_reason rfl rfl rfl (by decide +kernel) ⟨Nat.le_of_ble_eq_true rfl, Nat.le_of_ble_eq_true rfl⟩) (q0 := q0) (ci := 4) rfl (hw0.1 μ).1 rfl hl.1 rfl (Nat.le_of_ble_eq_true rfl) dL_reason_2 ⟨Nat.zero_le _, Nat.zero_le _⟩) (fun H locs hS => ?_)
    exact r_iretM X hS hr hlk (by decide) (by decide) dL_reason_5
  | none =>
    rw [h1] at h
    obtain ⟨k, h2, h⟩ := ob h
    by_cases cc0 : k = 2
    · replace h := it h cc0
      rw [cc0] at h2
      cases h
      refine r_thr (r := 2) (As := [.int a1]) (rest := []) X hS (t_X6_reason l hE (w := w) (ad := ad) (μ := μ) (D := D) (cI := cI) (cG := cG) (cL := cL) hw0 hst h2) (cwV 1 X.1.2.2.2.2 gL_reason_X6_reason rfl rfl rfl (by decide +kernel) ⟨Nat.le_of_ble_eq_true rfl, Nat.le_of_ble_eq_true rfl⟩) (q0 := q0) (ci := 4) rfl (hw0.1 μ).1 rfl hl.1 rfl (Nat.le_of_ble_eq_true rfl) dL_reason_2 ⟨Nat.le_of_ble_eq_true rfl, Nat.le_of_ble_eq_true rfl⟩ [] ⟨0, 5, 6, 15⟩ [⟨0, 5, 11, 17⟩] htab (fun _ h => absurd h List.not_mem_nil) rfl (by decide) (X.1.2.2.2.2 _ mk0) (va_Nw.use rfl (X.env.2.1 (.castable xIA xIA) (List.mem_of_getElem? (i := 1) rfl))) (fun H locs q9 hS => ?_)
      refine lv_astore_n (lv' := [(2, .ref q9), (0, .ref (ad q0)), (1, .int a1)]) hx hb dL_reason_6 rfl hl (by decide) rfl (fun ls hl => ?_)
      refine lv_sipush (v := (-2901)) hx hb dL_reason_7 (by decide) ?_
      exact r_iretM X hS hr hlk (by decide) (by decide) dL_reason_10
    · replace h := ie h cc0
      by_cases cc1 : k = 3
      · replace h := it h cc1
        rw [cc1] at h2
        cases h
        refine r_thr (r := 3) (As := [.int a1]) (rest := []) X hS (t_X6_reason l hE (w := w) (ad := ad) (μ := μ) (D := D) (cI := cI) (cG := cG) (cL := cL) hw0 hst h2) (cwV 1 X.1.2.2.2.2 gL_reason_X6_reason rfl rfl rfl (by decide +kernel) ⟨Nat.le_of_ble_eq_true rfl, Nat.le_of_ble_eq_true rfl⟩) (q0 := q0) (ci := 4) rfl (hw0.1 μ).1 rfl hl.1 rfl (Nat.le_of_ble_eq_true rfl) dL_reason_2 ⟨Nat.le_of_ble_eq_true rfl, Nat.le_of_ble_eq_true rfl⟩ [⟨0, 5, 6, 15⟩] ⟨0, 5, 11, 17⟩ [] htab (List.forall_mem_cons.mpr ⟨Or.inr ⟨by decide, _, X.1.2.2.2.2 _ mk0, X.env.2.2.1.1⟩, (fun _ h => absurd h List.not_mem_nil)⟩) rfl (by decide) (X.1.2.2.2.2 _ mk1) (va_Nw.use rfl (X.env.2.1 (.castable xIS xIS) (List.mem_of_getElem? (i := 2) rfl))) (fun H locs q9 hS => ?_)
        refine lv_astore_n (lv' := [(2, .ref q9), (0, .ref (ad q0)), (1, .int a1)]) hx hb dL_reason_11 rfl hl (by decide) rfl (fun ls hl => ?_)
        refine lv_sipush (v := (-2902)) hx hb dL_reason_12 (by decide) ?_
        exact r_iretM X hS hr hlk (by decide) (by decide) dL_reason_15
      · replace h := ie h cc1
        cases h
def f_L_since (q0 : Nat) (a1 : Int32) (μ : Mem) : Option Int32 := match f_X6_changedSince q0 a1 μ with
  | some z => some z
  | none => (f_X6_changedSince_t q0 a1 μ).bind (fun k => if k = 1 then some (-2903) else if k = 3 then some (-2902) else none)
set_option maxHeartbeats 4000000 in
set_option maxRecDepth 100000 in
theorem c_L_since (l : Launch) {D : va_G} {cI cG cL : ClassId} {A : Nat → Prop} {tC tS : Nat} {adE adK adV : Nat → Nat} (hE : EnOK (ENV tC tS adE adK adV A) A) (hst : l.stackTraces = false) {w : Mem → va_W} {ad : Nat → Nat} {q0 : Nat} {a1 : Int32} {μ : Mem} {r : Int32} (hw0 : PGAt cI cG adE w ad q0) (h : f_L_since q0 a1 μ = some r) : Met l yL_since wsL_since (rmc 8 1 6 137) (WPre D (tyl cI cG cL) A (ENV tC tS adE adK adV A) (w μ) [.ref (ad q0), .int a1]) (PI D A (w μ) r) 1 6 A := by
  have mk0 : Cond.classLink RL 39 xIO ∈ wsL_since := by decide +kernel
  have mk1 : Cond.classLink RL 17 xIS ∈ wsL_since := by decide +kernel
  refine met_startW (cc := cL_since) (nL := 3) (ret := some .int) (hh := [(0, 5, 6, 39), (0, 5, 11, 17)]) (own := RL) hE (by decide) rfl rfl (Nat.le_of_ble_eq_true rfl) (fun p e s m args below meth c ls X htab hS hl hr hlk => ?_)
  have hx := X.1.1
  have hb := X.1.2.1
  replace hl : lv_has ls 3 [(0, .ref (ad q0)), (1, .int a1)] := hl
  refine lv_aload_n hx hb dL_since_0 rfl (lv_at hl 0 rfl) ?_
  refine lv_iload_n hx hb dL_since_1 rfl (lv_at hl 1 rfl) ?_
  unfold f_L_since at h
  cases h1 : f_X6_changedSince q0 a1 μ with
  | some z =>
    rw [h1] at h
    cases h
    refine r_ci hS (r_runV (As := [.int a1]) (rest := []) X hS (c_X6_changedSince l hE (w := w) (ad := ad) (μ := μ) (D := D) (cI := cI) (cG := cG) (cL := cL) hw0 h1) (cwV 1 X.1.2.2.2.2 gL_since_X6_changedSince rfl rfl rfl (by decide +kernel) ⟨Nat.le_of_ble_eq_true rfl, Nat.le_of_ble_eq_true rfl⟩) (q0 := q0) (ci := 4) rfl (hw0.1 μ).1 rfl hl.1 rfl (Nat.le_of_ble_eq_true rfl) dL_since_2 ⟨Nat.zero_le _, Nat.zero_le _⟩) (fun H locs hS => ?_)
    exact r_iretM X hS hr hlk (by decide) (by decide) dL_since_5
  | none =>
    rw [h1] at h
    obtain ⟨k, h2, h⟩ := ob h
    by_cases cc0 : k = 1
    · replace h := it h cc0
      rw [cc0] at h2
      cases h
      refine r_thr (r := 1) (As := [.int a1]) (rest := []) X hS (t_X6_changedSince l hE (w := w) (ad := ad) (μ := μ) (D := D) (cI := cI) (cG := cG) (cL := cL) hw0 hst h2) (cwV 1 X.1.2.2.2.2 gL_since_X6_changedSince rfl rfl rfl (by decide +kernel) ⟨Nat.le_of_ble_eq_true rfl, Nat.le_of_ble_eq_true rfl⟩) (q0 := q0) (ci := 4) rfl (hw0.1 μ).1 rfl hl.1 rfl (Nat.le_of_ble_eq_true rfl) dL_since_2 ⟨Nat.le_of_ble_eq_true rfl, Nat.le_of_ble_eq_true rfl⟩ [] ⟨0, 5, 6, 39⟩ [⟨0, 5, 11, 17⟩] htab (fun _ h => absurd h List.not_mem_nil) rfl (by decide) (X.1.2.2.2.2 _ mk0) (va_Nw.use rfl (X.env.2.1 (.castable xIO xIO) (List.mem_of_getElem? (i := 0) rfl))) (fun H locs q9 hS => ?_)
      refine lv_astore_n (lv' := [(2, .ref q9), (0, .ref (ad q0)), (1, .int a1)]) hx hb dL_since_6 rfl hl (by decide) rfl (fun ls hl => ?_)
      refine lv_sipush (v := (-2903)) hx hb dL_since_7 (by decide) ?_
      exact r_iretM X hS hr hlk (by decide) (by decide) dL_since_10
    · replace h := ie h cc0
      by_cases cc1 : k = 3
      · replace h := it h cc1
        rw [cc1] at h2
        cases h
        refine r_thr (r := 3) (As := [.int a1]) (rest := []) X hS (t_X6_changedSince l hE (w := w) (ad := ad) (μ := μ) (D := D) (cI := cI) (cG := cG) (cL := cL) hw0 hst h2) (cwV 1 X.1.2.2.2.2 gL_since_X6_changedSince rfl rfl rfl (by decide +kernel) ⟨Nat.le_of_ble_eq_true rfl, Nat.le_of_ble_eq_true rfl⟩) (q0 := q0) (ci := 4) rfl (hw0.1 μ).1 rfl hl.1 rfl (Nat.le_of_ble_eq_true rfl) dL_since_2 ⟨Nat.le_of_ble_eq_true rfl, Nat.le_of_ble_eq_true rfl⟩ [⟨0, 5, 6, 39⟩] ⟨0, 5, 11, 17⟩ [] htab (List.forall_mem_cons.mpr ⟨Or.inr ⟨by decide, _, X.1.2.2.2.2 _ mk0, X.env.2.2.1.2.1⟩, (fun _ h => absurd h List.not_mem_nil)⟩) rfl (by decide) (X.1.2.2.2.2 _ mk1) (va_Nw.use rfl (X.env.2.1 (.castable xIS xIS) (List.mem_of_getElem? (i := 2) rfl))) (fun H locs q9 hS => ?_)
        refine lv_astore_n (lv' := [(2, .ref q9), (0, .ref (ad q0)), (1, .int a1)]) hx hb dL_since_11 rfl hl (by decide) rfl (fun ls hl => ?_)
        refine lv_sipush (v := (-2902)) hx hb dL_since_12 (by decide) ?_
        exact r_iretM X hS hr hlk (by decide) (by decide) dL_since_15
      · replace h := ie h cc1
        cases h
def f_L_undo (q0 : Nat) (μ : Mem) : Option (Int32 × Mem) := match f_X6_undo q0 μ with
  | some z => some z
  | none => (f_X6_undo_t q0 μ).bind (fun k => if k = 3 then some ((-2902), μ) else none)
set_option maxHeartbeats 4000000 in
set_option maxRecDepth 100000 in
theorem c_L_undo (l : Launch) {D : va_G} {cI cG cL : ClassId} {A : Nat → Prop} {tC tS : Nat} {adE adK adV : Nat → Nat} (hE : EnOK (ENV tC tS adE adK adV A) A) (hst : l.stackTraces = false) {w : Mem → va_W} {ad : Nat → Nat} {q0 : Nat} {μ : Mem} {r : Int32} {μ' : Mem} (hw0 : PGAt cI cG adE w ad q0) (h : f_L_undo q0 μ = some (r, μ')) : Met l yL_undo wsL_undo (rmc 8 1 6 122) (WPre D (tyl cI cG cL) A (ENV tC tS adE adK adV A) (w μ) [.ref (ad q0)]) (PI D A (w μ') r) 1 6 A := by
  have mk0 : Cond.classLink RL 17 xIS ∈ wsL_undo := by decide +kernel
  refine met_startW (cc := cL_undo) (nL := 2) (ret := some .int) (hh := [(0, 4, 5, 17)]) (own := RL) hE (by decide) rfl rfl (Nat.le_of_ble_eq_true rfl) (fun p e s m args below meth c ls X htab hS hl hr hlk => ?_)
  have hx := X.1.1
  have hb := X.1.2.1
  replace hl : lv_has ls 2 [(0, .ref (ad q0))] := hl
  refine lv_aload_n hx hb dL_undo_0 rfl (lv_at hl 0 rfl) ?_
  unfold f_L_undo at h
  cases h1 : f_X6_undo q0 μ with
  | some z =>
    rw [h1] at h
    obtain ⟨z1, z2⟩ := z
    obtain ⟨rfl, rfl⟩ := pr2 h
    refine r_ci hS (r_runV (As := []) (rest := []) X hS (c_X6_undo l hE (w := w) (ad := ad) (μ := μ) (D := D) (cI := cI) (cG := cG) (cL := cL) hw0 h1) (cwV 0 X.1.2.2.2.2 gL_undo_X6_undo rfl rfl rfl (by decide +kernel) ⟨Nat.le_of_ble_eq_true rfl, Nat.le_of_ble_eq_true rfl⟩) (q0 := q0) (ci := 4) rfl (hw0.1 μ).1 rfl hl.1 rfl (Nat.le_of_ble_eq_true rfl) dL_undo_1 ⟨Nat.zero_le _, Nat.zero_le _⟩) (fun H locs hS => ?_)
    exact r_iretM X hS hr hlk (by decide) (by decide) dL_undo_4
  | none =>
    rw [h1] at h
    obtain ⟨k, h2, h⟩ := ob h
    by_cases cc0 : k = 3
    · replace h := it h cc0
      rw [cc0] at h2
      obtain ⟨rfl, rfl⟩ := pr2 h
      refine r_thr (r := 3) (As := []) (rest := []) X hS (t_X6_undo l hE (w := w) (ad := ad) (μ := μ) (D := D) (cI := cI) (cG := cG) (cL := cL) hw0 hst h2) (cwV 0 X.1.2.2.2.2 gL_undo_X6_undo rfl rfl rfl (by decide +kernel) ⟨Nat.le_of_ble_eq_true rfl, Nat.le_of_ble_eq_true rfl⟩) (q0 := q0) (ci := 4) rfl (hw0.1 μ).1 rfl hl.1 rfl (Nat.le_of_ble_eq_true rfl) dL_undo_1 ⟨Nat.le_of_ble_eq_true rfl, Nat.le_of_ble_eq_true rfl⟩ [] ⟨0, 4, 5, 17⟩ [] htab (fun _ h => absurd h List.not_mem_nil) rfl (by decide) (X.1.2.2.2.2 _ mk0) (va_Nw.use rfl (X.env.2.1 (.castable xIS xIS) (List.mem_of_getElem? (i := 2) rfl))) (fun H locs q9 hS => ?_)
      refine lv_astore_n (lv' := [(1, .ref q9), (0, .ref (ad q0))]) hx hb dL_undo_5 rfl hl (by decide) rfl (fun ls hl => ?_)
      refine lv_sipush (v := (-2902)) hx hb dL_undo_6 (by decide) ?_
      exact r_iretM X hS hr hlk (by decide) (by decide) dL_undo_9
    · replace h := ie h cc0
      cases h
