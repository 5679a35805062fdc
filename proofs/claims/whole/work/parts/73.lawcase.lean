def St_0 (a1 a2 : Int32) (μ μ' : Mem) : Prop := (∃ (r : Int32) (μ1 : Mem), f_X6_begin 0 μ = some (r, μ1) ∧ f_X7_begin 85 μ1 = some (r, μ') ∧ f_X7_thrown 85 μ' = some 0) ∨ (f_X6_begin_t 0 μ = some 3 ∧ ∃ r : Int32, f_X7_begin 85 μ = some (r, μ') ∧ f_X7_thrown 85 μ' = some 1)
set_option maxHeartbeats 4000000 in
set_option maxRecDepth 100000 in
theorem k_L_0 (l : Launch) {D : va_G} {cI cG cL : ClassId} {A : Nat → Prop} {tC tS : Nat} {adE adK adV ad : Nat → Nat} (hE : EnOK (ENV tC tS adE adK adV A) A) (hst : l.stackTraces = false) {p : Program} {e : Env} {s : State} {m : MethodId} {below : List Frame} {meth : Method} {c : Code} {b L : Nat} {xs : Nat → Int32} (X : Cx p s m #[.ref b] c cL_law 7 vsL_law RL D (tyl cI cG cL) A (ENV tC tS adE adK adV A)) (hX : va_X b L xs s s.heap) (hbl : b < s.heap.size) (hbA : ¬ A b) {H : Heap} {locs : List Loc} {ls : Array Slot} {hh o : Int64} {μ : Mem} {i : Int32} (hS : HS D A (WW cI cG cL adE ad hh o μ) s.heap H locs) (hl : lv_has ls 7 [(0, .ref b), (1, .ref (ad 0)), (2, .ref (ad 85)), (3, .ref (ad 92)), (4, .int i)]) (h1 : vp_in (i + 1) L) (h2 : vp_in (i + 2) L) {cells slots : Nat} (hc : cells + 1 ≤ 601024) (hs : slots + 6 ≤ 7293034) {Q : State → Prop} {μ' : Mem} {hh' : Int64} (st : St_0 (xs (i + 1).toNatClampNeg) (xs (i + 2).toNatClampNeg) μ μ') (eh : hh = hh') (kend : ∀ (o : Int64) (H : Heap) (locs : List Loc) (ls : Array Slot), HS D A (WW cI cG cL adE ad hh' o μ') s.heap H locs → lv_has ls 7 [(0, .ref b), (1, .ref (ad 0)), (2, .ref (ad 85)), (3, .ref (ad 92)), (4, .int i)] → W p l e room_1 s m #[.ref b] below meth c H locs (cells + 1) (slots + 6) Q (F0 m 1405 ls [])) : W p l e room_1 s m #[.ref b] below meth c H locs cells slots Q (F0 m 152 ls []) := by
  subst eh
  have hx := X.1.1
  have hb := X.1.2.1
  rcases st with ⟨r, μ1, f1, f2, f3⟩ | ⟨f1, r, f2, f3⟩
  · refine lv_aload_n hx hb dL_law_152 rfl (lv_at hl 1 rfl) ?_
    refine lv_aload_n hx hb dL_law_153 rfl (lv_at hl 3 rfl) ?_
    refine r_cim hS (r_runSW (mc := 0) (ms := 0) (As := [.ref (ad 0), .ref (ad 92)]) (rest := []) X hS (o_L_begin l hE (D := D) (cI := cI) (cG := cG) (cL := cL) (wo := WW cI cG cL adE ad hh) (ad := ad) (q := 0) (qo := 92) (o := o) (μ := μ) (fun o => WW_pg hh o) (WW_out hh) f1) (vx_cwSW (hh := [(0, 8, 11, 13)]) 2 X.1.2.2.2.2 hL_L_begin rfl rfl rfl (by decide +kernel) ⟨Nat.le_of_ble_eq_true rfl, Nat.le_of_ble_eq_true rfl⟩) rfl hl.1 rfl (Nat.le_of_ble_eq_true rfl) dL_law_154 ⟨Nat.le_of_lt hc, Nat.le_trans (Nat.le_add_right slots 6) hs⟩) (fun H locs hS => ?_)
    refine lv_istore (lv' := [(5, .int 0), (0, .ref b), (1, .ref (ad 0)), (2, .ref (ad 85)), (3, .ref (ad 92)), (4, .int i)]) hx hb dL_law_157 hl (by decide) rfl (fun ls hl => ?_)
    refine lv_aload_n hx hb dL_law_159 rfl (lv_at hl 3 rfl) ?_
    refine r_ci hS (r_runV (As := []) (rest := []) X hS (c_X7_begin l hE (D := D) (cI := cI) (cG := cG) (cL := cL) (w := WW cI cG cL adE ad hh r.toInt64) (ad := ad) (WW_model hh r.toInt64) f2) (cwV 0 X.1.2.2.2.2 hL_X7_begin rfl rfl rfl (by decide +kernel) ⟨Nat.le_of_ble_eq_true rfl, Nat.le_of_ble_eq_true rfl⟩) (q0 := 85) (ci := 5) rfl ((WW_model hh r.toInt64).1 μ1).1 rfl hl.1 rfl (Nat.le_of_ble_eq_true rfl) dL_law_160 ⟨Nat.le_of_lt hc, Nat.le_trans (Nat.le_add_right slots 6) hs⟩) (fun H locs hS => ?_)
    refine lv_istore (lv' := [(6, .int r), (5, .int 0), (0, .ref b), (1, .ref (ad 0)), (2, .ref (ad 85)), (3, .ref (ad 92)), (4, .int i)]) hx hb dL_law_163 hl (by decide) rfl (fun ls hl => ?_)
    refine lv_aload_n hx hb dL_law_165 rfl (lv_at hl 4 rfl) ?_
    refine r_ci hS (r_runV (As := []) (rest := []) X hS (c_X7_thrown l hE (D := D) (cI := cI) (cG := cG) (cL := cL) (w := WW cI cG cL adE ad hh r.toInt64) (ad := ad) (WW_model hh r.toInt64) f3) (cwV 0 X.1.2.2.2.2 hL_X7_thrown rfl rfl rfl (by decide +kernel) ⟨Nat.le_of_ble_eq_true rfl, Nat.le_of_ble_eq_true rfl⟩) (q0 := 85) (ci := 5) rfl ((WW_model hh r.toInt64).1 μ').1 rfl hl.1 rfl (Nat.le_of_ble_eq_true rfl) dL_law_166 ⟨Nat.le_of_lt hc, Nat.le_trans (Nat.le_add_right slots 6) hs⟩) (fun H locs hS => ?_)
    refine lv_iload hx hb dL_law_169 (lv_at hl 1 rfl) ?_
    refine lv_icmp_eq (tgt := 176) hx hb dL_law_171 (by decide) (fun _ => ?_) (fun cc => absurd rfl cc)
    refine lv_iload hx hb dL_law_176 (lv_at hl 1 rfl) ?_
    refine lv_if_ne (tgt := 193) hx hb dL_law_178 (by decide) (fun cc => absurd rfl cc) (fun _ => ?_)
    refine lv_aload_n hx hb dL_law_181 rfl (lv_at hl 5 rfl) ?_
    refine lv_iconst (v := 0) hx hb dL_law_182 (by decide) ?_
    refine r_lald X hS (WW_out hh) dL_law_183 ?_
    refine lv_iload hx hb dL_law_184 (lv_at hl 0 rfl) ?_
    refine lv_i2l (v := r.toInt64) hx hb dL_law_186 rfl ?_
    refine W.lcmp hx hb dL_law_187 ?_
    refine lv_if_eq (tgt := 193) hx hb dL_law_188 (by decide) (fun _ => ?_) (fun cc => absurd (lg_self _) cc)
    refine lv_goto (tgt := 1405) hx hb dL_law_193 (by decide) ?_
    refine W.widen (k := cells + 1) (n := slots + 6) (Nat.le_succ _) (Nat.le_add_right _ _) ?_
    exact kend r.toInt64 H locs ls hS (lv_sub hl [2, 3, 4, 5, 6] rfl)
  · refine lv_aload_n hx hb dL_law_152 rfl (lv_at hl 1 rfl) ?_
    refine lv_aload_n hx hb dL_law_153 rfl (lv_at hl 3 rfl) ?_
    refine r_cim hS (r_runSW (mc := 1) (ms := 6) (As := [.ref (ad 0), .ref (ad 92)]) (rest := []) X hS (x_L_begin_3 l hE (D := D) (cI := cI) (cG := cG) (cL := cL) (wo := WW cI cG cL adE ad hh) (ad := ad) (q := 0) (qo := 92) (o := o) (μ := μ) (fun o => WW_pg hh o) (WW_out hh) hst f1) (vx_cwSW (hh := [(0, 8, 11, 13)]) 2 X.1.2.2.2.2 hL_L_begin rfl rfl rfl (by decide +kernel) ⟨Nat.le_of_ble_eq_true rfl, Nat.le_of_ble_eq_true rfl⟩) rfl hl.1 rfl (Nat.le_of_ble_eq_true rfl) dL_law_154 ⟨hc, hs⟩) (fun H locs hS => ?_)
    refine lv_istore (lv' := [(5, .int 1), (0, .ref b), (1, .ref (ad 0)), (2, .ref (ad 85)), (3, .ref (ad 92)), (4, .int i)]) hx hb dL_law_157 hl (by decide) rfl (fun ls hl => ?_)
    refine lv_aload_n hx hb dL_law_159 rfl (lv_at hl 3 rfl) ?_
    refine r_ci hS (r_runV (As := []) (rest := []) X hS (c_X7_begin l hE (D := D) (cI := cI) (cG := cG) (cL := cL) (w := WW cI cG cL adE ad hh o) (ad := ad) (WW_model hh o) f2) (cwV 0 X.1.2.2.2.2 hL_X7_begin rfl rfl rfl (by decide +kernel) ⟨Nat.le_of_ble_eq_true rfl, Nat.le_of_ble_eq_true rfl⟩) (q0 := 85) (ci := 5) rfl ((WW_model hh o).1 μ).1 rfl hl.1 rfl (Nat.le_of_ble_eq_true rfl) dL_law_160 ⟨hc, hs⟩) (fun H locs hS => ?_)
    refine lv_istore (lv' := [(6, .int r), (5, .int 1), (0, .ref b), (1, .ref (ad 0)), (2, .ref (ad 85)), (3, .ref (ad 92)), (4, .int i)]) hx hb dL_law_163 hl (by decide) rfl (fun ls hl => ?_)
    refine lv_aload_n hx hb dL_law_165 rfl (lv_at hl 4 rfl) ?_
    refine r_ci hS (r_runV (As := []) (rest := []) X hS (c_X7_thrown l hE (D := D) (cI := cI) (cG := cG) (cL := cL) (w := WW cI cG cL adE ad hh o) (ad := ad) (WW_model hh o) f3) (cwV 0 X.1.2.2.2.2 hL_X7_thrown rfl rfl rfl (by decide +kernel) ⟨Nat.le_of_ble_eq_true rfl, Nat.le_of_ble_eq_true rfl⟩) (q0 := 85) (ci := 5) rfl ((WW_model hh o).1 μ').1 rfl hl.1 rfl (Nat.le_of_ble_eq_true rfl) dL_law_166 ⟨hc, hs⟩) (fun H locs hS => ?_)
    refine lv_iload hx hb dL_law_169 (lv_at hl 1 rfl) ?_
    refine lv_icmp_eq (tgt := 176) hx hb dL_law_171 (by decide) (fun _ => ?_) (fun cc => absurd rfl cc)
    refine lv_iload hx hb dL_law_176 (lv_at hl 1 rfl) ?_
    refine lv_if_ne (tgt := 193) hx hb dL_law_178 (by decide) (fun _ => ?_) (fun cc => absurd cc (by decide))
    refine lv_goto (tgt := 1405) hx hb dL_law_193 (by decide) ?_
    exact kend o H locs ls hS (lv_sub hl [2, 3, 4, 5, 6] rfl)
def St_1 (a1 a2 : Int32) (μ μ' : Mem) : Prop := (∃ (r : Int32) (μ1 : Mem), f_X6_put 0 a1 a2 μ = some (r, μ1) ∧ f_X7_put 85 a1 a2 μ1 = some (r, μ') ∧ f_X7_thrown 85 μ' = some 0) ∨ (f_X6_put_t 0 a1 a2 μ = some 2 ∧ ∃ r : Int32, f_X7_put 85 a1 a2 μ = some (r, μ') ∧ f_X7_thrown 85 μ' = some 1) ∨ (f_X6_put_t 0 a1 a2 μ = some 3 ∧ ∃ r : Int32, f_X7_put 85 a1 a2 μ = some (r, μ') ∧ f_X7_thrown 85 μ' = some 2)
set_option maxHeartbeats 4000000 in
set_option maxRecDepth 100000 in
theorem k_L_1 (l : Launch) {D : va_G} {cI cG cL : ClassId} {A : Nat → Prop} {tC tS : Nat} {adE adK adV ad : Nat → Nat} (hE : EnOK (ENV tC tS adE adK adV A) A) (hst : l.stackTraces = false) {p : Program} {e : Env} {s : State} {m : MethodId} {below : List Frame} {meth : Method} {c : Code} {b L : Nat} {xs : Nat → Int32} (X : Cx p s m #[.ref b] c cL_law 7 vsL_law RL D (tyl cI cG cL) A (ENV tC tS adE adK adV A)) (hX : va_X b L xs s s.heap) (hbl : b < s.heap.size) (hbA : ¬ A b) {H : Heap} {locs : List Loc} {ls : Array Slot} {hh o : Int64} {μ : Mem} {i : Int32} (hS : HS D A (WW cI cG cL adE ad hh o μ) s.heap H locs) (hl : lv_has ls 7 [(0, .ref b), (1, .ref (ad 0)), (2, .ref (ad 85)), (3, .ref (ad 92)), (4, .int i)]) (h1 : vp_in (i + 1) L) (h2 : vp_in (i + 2) L) {cells slots : Nat} (hc : cells + 1 ≤ 601024) (hs : slots + 6 ≤ 7293034) {Q : State → Prop} {μ' : Mem} {hh' : Int64} (st : St_1 (xs (i + 1).toNatClampNeg) (xs (i + 2).toNatClampNeg) μ μ') (eh : hh = hh') (kend : ∀ (o : Int64) (H : Heap) (locs : List Loc) (ls : Array Slot), HS D A (WW cI cG cL adE ad hh' o μ') s.heap H locs → lv_has ls 7 [(0, .ref b), (1, .ref (ad 0)), (2, .ref (ad 85)), (3, .ref (ad 92)), (4, .int i)] → W p l e room_1 s m #[.ref b] below meth c H locs (cells + 1) (slots + 6) Q (F0 m 1405 ls [])) : W p l e room_1 s m #[.ref b] below meth c H locs cells slots Q (F0 m 196 ls []) := by
  subst eh
  have hx := X.1.1
  have hb := X.1.2.1
  rcases st with ⟨r, μ1, f1, f2, f3⟩ | ⟨f1, r, f2, f3⟩ | ⟨f1, r, f2, f3⟩
  · refine lv_aload_n hx hb dL_law_196 rfl (lv_at hl 1 rfl) ?_
    refine lv_aload_n hx hb dL_law_197 rfl (lv_at hl 0 rfl) ?_
    refine lv_iload hx hb dL_law_198 (lv_at hl 4 rfl) ?_
    refine lv_iconst (v := 1) hx hb dL_law_200 (by decide) ?_
    refine lv_iadd hx hb dL_law_201 ?_
    refine va_sld hx hb hX hbl hbA hS.2.2 h1 dL_law_202 ?_
    refine lv_aload_n hx hb dL_law_203 rfl (lv_at hl 0 rfl) ?_
    refine lv_iload hx hb dL_law_204 (lv_at hl 4 rfl) ?_
    refine lv_iconst (v := 2) hx hb dL_law_206 (by decide) ?_
    refine lv_iadd hx hb dL_law_207 ?_
    refine va_sld hx hb hX hbl hbA hS.2.2 h2 dL_law_208 ?_
    refine lv_aload_n hx hb dL_law_209 rfl (lv_at hl 3 rfl) ?_
    refine r_cim hS (r_runSW (mc := 0) (ms := 0) (As := [.ref (ad 0), .int (xs (i + 1).toNatClampNeg), .int (xs (i + 2).toNatClampNeg), .ref (ad 92)]) (rest := []) X hS (o_L_put l hE (D := D) (cI := cI) (cG := cG) (cL := cL) (wo := WW cI cG cL adE ad hh) (ad := ad) (q := 0) (qo := 92) (o := o) (μ := μ) (fun o => WW_pg hh o) (WW_out hh) f1) (vx_cwSW (hh := [(0, 10, 13, 19), (0, 10, 17, 13)]) 4 X.1.2.2.2.2 hL_L_put rfl rfl rfl (by decide +kernel) ⟨Nat.le_of_ble_eq_true rfl, Nat.le_of_ble_eq_true rfl⟩) rfl hl.1 rfl (Nat.le_of_ble_eq_true rfl) dL_law_210 ⟨Nat.le_of_lt hc, Nat.le_trans (Nat.le_add_right slots 6) hs⟩) (fun H locs hS => ?_)
    refine lv_istore (lv' := [(5, .int 0), (0, .ref b), (1, .ref (ad 0)), (2, .ref (ad 85)), (3, .ref (ad 92)), (4, .int i)]) hx hb dL_law_213 hl (by decide) rfl (fun ls hl => ?_)
    refine lv_aload_n hx hb dL_law_215 rfl (lv_at hl 3 rfl) ?_
    refine lv_aload_n hx hb dL_law_216 rfl (lv_at hl 1 rfl) ?_
    refine lv_iload hx hb dL_law_217 (lv_at hl 5 rfl) ?_
    refine lv_iconst (v := 1) hx hb dL_law_219 (by decide) ?_
    refine lv_iadd hx hb dL_law_220 ?_
    refine va_sld hx hb hX hbl hbA hS.2.2 h1 dL_law_221 ?_
    refine lv_aload_n hx hb dL_law_222 rfl (lv_at hl 1 rfl) ?_
    refine lv_iload hx hb dL_law_223 (lv_at hl 5 rfl) ?_
    refine lv_iconst (v := 2) hx hb dL_law_225 (by decide) ?_
    refine lv_iadd hx hb dL_law_226 ?_
    refine va_sld hx hb hX hbl hbA hS.2.2 h2 dL_law_227 ?_
    refine r_ci hS (r_runV (As := [.int (xs (i + 1).toNatClampNeg), .int (xs (i + 2).toNatClampNeg)]) (rest := []) X hS (c_X7_put l hE (D := D) (cI := cI) (cG := cG) (cL := cL) (w := WW cI cG cL adE ad hh r.toInt64) (ad := ad) (WW_model hh r.toInt64) f2) (cwV 2 X.1.2.2.2.2 hL_X7_put rfl rfl rfl (by decide +kernel) ⟨Nat.le_of_ble_eq_true rfl, Nat.le_of_ble_eq_true rfl⟩) (q0 := 85) (ci := 5) rfl ((WW_model hh r.toInt64).1 μ1).1 rfl hl.1 rfl (Nat.le_of_ble_eq_true rfl) dL_law_228 ⟨Nat.le_of_lt hc, Nat.le_trans (Nat.le_add_right slots 6) hs⟩) (fun H locs hS => ?_)
    refine lv_istore (lv' := [(6, .int r), (5, .int 0), (0, .ref b), (1, .ref (ad 0)), (2, .ref (ad 85)), (3, .ref (ad 92)), (4, .int i)]) hx hb dL_law_231 hl (by decide) rfl (fun ls hl => ?_)
    refine lv_aload_n hx hb dL_law_233 rfl (lv_at hl 4 rfl) ?_
    refine r_ci hS (r_runV (As := []) (rest := []) X hS (c_X7_thrown l hE (D := D) (cI := cI) (cG := cG) (cL := cL) (w := WW cI cG cL adE ad hh r.toInt64) (ad := ad) (WW_model hh r.toInt64) f3) (cwV 0 X.1.2.2.2.2 hL_X7_thrown rfl rfl rfl (by decide +kernel) ⟨Nat.le_of_ble_eq_true rfl, Nat.le_of_ble_eq_true rfl⟩) (q0 := 85) (ci := 5) rfl ((WW_model hh r.toInt64).1 μ').1 rfl hl.1 rfl (Nat.le_of_ble_eq_true rfl) dL_law_234 ⟨Nat.le_of_lt hc, Nat.le_trans (Nat.le_add_right slots 6) hs⟩) (fun H locs hS => ?_)
    refine lv_iload hx hb dL_law_237 (lv_at hl 1 rfl) ?_
    refine lv_icmp_eq (tgt := 244) hx hb dL_law_239 (by decide) (fun _ => ?_) (fun cc => absurd rfl cc)
    refine lv_iload hx hb dL_law_244 (lv_at hl 1 rfl) ?_
    refine lv_if_ne (tgt := 261) hx hb dL_law_246 (by decide) (fun cc => absurd rfl cc) (fun _ => ?_)
    refine lv_aload_n hx hb dL_law_249 rfl (lv_at hl 5 rfl) ?_
    refine lv_iconst (v := 0) hx hb dL_law_250 (by decide) ?_
    refine r_lald X hS (WW_out hh) dL_law_251 ?_
    refine lv_iload hx hb dL_law_252 (lv_at hl 0 rfl) ?_
    refine lv_i2l (v := r.toInt64) hx hb dL_law_254 rfl ?_
    refine W.lcmp hx hb dL_law_255 ?_
    refine lv_if_eq (tgt := 261) hx hb dL_law_256 (by decide) (fun _ => ?_) (fun cc => absurd (lg_self _) cc)
    refine lv_goto (tgt := 1405) hx hb dL_law_261 (by decide) ?_
    refine W.widen (k := cells + 1) (n := slots + 6) (Nat.le_succ _) (Nat.le_add_right _ _) ?_
    exact kend r.toInt64 H locs ls hS (lv_sub hl [2, 3, 4, 5, 6] rfl)
  · refine lv_aload_n hx hb dL_law_196 rfl (lv_at hl 1 rfl) ?_
    refine lv_aload_n hx hb dL_law_197 rfl (lv_at hl 0 rfl) ?_
    refine lv_iload hx hb dL_law_198 (lv_at hl 4 rfl) ?_
    refine lv_iconst (v := 1) hx hb dL_law_200 (by decide) ?_
    refine lv_iadd hx hb dL_law_201 ?_
    refine va_sld hx hb hX hbl hbA hS.2.2 h1 dL_law_202 ?_
    refine lv_aload_n hx hb dL_law_203 rfl (lv_at hl 0 rfl) ?_
    refine lv_iload hx hb dL_law_204 (lv_at hl 4 rfl) ?_
    refine lv_iconst (v := 2) hx hb dL_law_206 (by decide) ?_
    refine lv_iadd hx hb dL_law_207 ?_
    refine va_sld hx hb hX hbl hbA hS.2.2 h2 dL_law_208 ?_
    refine lv_aload_n hx hb dL_law_209 rfl (lv_at hl 3 rfl) ?_
    refine r_cim hS (r_runSW (mc := 1) (ms := 6) (As := [.ref (ad 0), .int (xs (i + 1).toNatClampNeg), .int (xs (i + 2).toNatClampNeg), .ref (ad 92)]) (rest := []) X hS (x_L_put_2 l hE (D := D) (cI := cI) (cG := cG) (cL := cL) (wo := WW cI cG cL adE ad hh) (ad := ad) (q := 0) (qo := 92) (o := o) (μ := μ) (fun o => WW_pg hh o) (WW_out hh) hst f1) (vx_cwSW (hh := [(0, 10, 13, 19), (0, 10, 17, 13)]) 4 X.1.2.2.2.2 hL_L_put rfl rfl rfl (by decide +kernel) ⟨Nat.le_of_ble_eq_true rfl, Nat.le_of_ble_eq_true rfl⟩) rfl hl.1 rfl (Nat.le_of_ble_eq_true rfl) dL_law_210 ⟨hc, hs⟩) (fun H locs hS => ?_)
    refine lv_istore (lv' := [(5, .int 1), (0, .ref b), (1, .ref (ad 0)), (2, .ref (ad 85)), (3, .ref (ad 92)), (4, .int i)]) hx hb dL_law_213 hl (by decide) rfl (fun ls hl => ?_)
    refine lv_aload_n hx hb dL_law_215 rfl (lv_at hl 3 rfl) ?_
    refine lv_aload_n hx hb dL_law_216 rfl (lv_at hl 1 rfl) ?_
    refine lv_iload hx hb dL_law_217 (lv_at hl 5 rfl) ?_
    refine lv_iconst (v := 1) hx hb dL_law_219 (by decide) ?_
    refine lv_iadd hx hb dL_law_220 ?_
    refine va_sld hx hb hX hbl hbA hS.2.2 h1 dL_law_221 ?_
    refine lv_aload_n hx hb dL_law_222 rfl (lv_at hl 1 rfl) ?_
    refine lv_iload hx hb dL_law_223 (lv_at hl 5 rfl) ?_
    refine lv_iconst (v := 2) hx hb dL_law_225 (by decide) ?_
    refine lv_iadd hx hb dL_law_226 ?_
    refine va_sld hx hb hX hbl hbA hS.2.2 h2 dL_law_227 ?_
    refine r_ci hS (r_runV (As := [.int (xs (i + 1).toNatClampNeg), .int (xs (i + 2).toNatClampNeg)]) (rest := []) X hS (c_X7_put l hE (D := D) (cI := cI) (cG := cG) (cL := cL) (w := WW cI cG cL adE ad hh o) (ad := ad) (WW_model hh o) f2) (cwV 2 X.1.2.2.2.2 hL_X7_put rfl rfl rfl (by decide +kernel) ⟨Nat.le_of_ble_eq_true rfl, Nat.le_of_ble_eq_true rfl⟩) (q0 := 85) (ci := 5) rfl ((WW_model hh o).1 μ).1 rfl hl.1 rfl (Nat.le_of_ble_eq_true rfl) dL_law_228 ⟨hc, hs⟩) (fun H locs hS => ?_)
    refine lv_istore (lv' := [(6, .int r), (5, .int 1), (0, .ref b), (1, .ref (ad 0)), (2, .ref (ad 85)), (3, .ref (ad 92)), (4, .int i)]) hx hb dL_law_231 hl (by decide) rfl (fun ls hl => ?_)
    refine lv_aload_n hx hb dL_law_233 rfl (lv_at hl 4 rfl) ?_
    refine r_ci hS (r_runV (As := []) (rest := []) X hS (c_X7_thrown l hE (D := D) (cI := cI) (cG := cG) (cL := cL) (w := WW cI cG cL adE ad hh o) (ad := ad) (WW_model hh o) f3) (cwV 0 X.1.2.2.2.2 hL_X7_thrown rfl rfl rfl (by decide +kernel) ⟨Nat.le_of_ble_eq_true rfl, Nat.le_of_ble_eq_true rfl⟩) (q0 := 85) (ci := 5) rfl ((WW_model hh o).1 μ').1 rfl hl.1 rfl (Nat.le_of_ble_eq_true rfl) dL_law_234 ⟨hc, hs⟩) (fun H locs hS => ?_)
    refine lv_iload hx hb dL_law_237 (lv_at hl 1 rfl) ?_
    refine lv_icmp_eq (tgt := 244) hx hb dL_law_239 (by decide) (fun _ => ?_) (fun cc => absurd rfl cc)
    refine lv_iload hx hb dL_law_244 (lv_at hl 1 rfl) ?_
    refine lv_if_ne (tgt := 261) hx hb dL_law_246 (by decide) (fun _ => ?_) (fun cc => absurd cc (by decide))
    refine lv_goto (tgt := 1405) hx hb dL_law_261 (by decide) ?_
    exact kend o H locs ls hS (lv_sub hl [2, 3, 4, 5, 6] rfl)
  · refine lv_aload_n hx hb dL_law_196 rfl (lv_at hl 1 rfl) ?_
    refine lv_aload_n hx hb dL_law_197 rfl (lv_at hl 0 rfl) ?_
    refine lv_iload hx hb dL_law_198 (lv_at hl 4 rfl) ?_
    refine lv_iconst (v := 1) hx hb dL_law_200 (by decide) ?_
    refine lv_iadd hx hb dL_law_201 ?_
    refine va_sld hx hb hX hbl hbA hS.2.2 h1 dL_law_202 ?_
    refine lv_aload_n hx hb dL_law_203 rfl (lv_at hl 0 rfl) ?_
    refine lv_iload hx hb dL_law_204 (lv_at hl 4 rfl) ?_
    refine lv_iconst (v := 2) hx hb dL_law_206 (by decide) ?_
    refine lv_iadd hx hb dL_law_207 ?_
    refine va_sld hx hb hX hbl hbA hS.2.2 h2 dL_law_208 ?_
    refine lv_aload_n hx hb dL_law_209 rfl (lv_at hl 3 rfl) ?_
    refine r_cim hS (r_runSW (mc := 1) (ms := 6) (As := [.ref (ad 0), .int (xs (i + 1).toNatClampNeg), .int (xs (i + 2).toNatClampNeg), .ref (ad 92)]) (rest := []) X hS (x_L_put_3 l hE (D := D) (cI := cI) (cG := cG) (cL := cL) (wo := WW cI cG cL adE ad hh) (ad := ad) (q := 0) (qo := 92) (o := o) (μ := μ) (fun o => WW_pg hh o) (WW_out hh) hst f1) (vx_cwSW (hh := [(0, 10, 13, 19), (0, 10, 17, 13)]) 4 X.1.2.2.2.2 hL_L_put rfl rfl rfl (by decide +kernel) ⟨Nat.le_of_ble_eq_true rfl, Nat.le_of_ble_eq_true rfl⟩) rfl hl.1 rfl (Nat.le_of_ble_eq_true rfl) dL_law_210 ⟨hc, hs⟩) (fun H locs hS => ?_)
    refine lv_istore (lv' := [(5, .int 2), (0, .ref b), (1, .ref (ad 0)), (2, .ref (ad 85)), (3, .ref (ad 92)), (4, .int i)]) hx hb dL_law_213 hl (by decide) rfl (fun ls hl => ?_)
    refine lv_aload_n hx hb dL_law_215 rfl (lv_at hl 3 rfl) ?_
    refine lv_aload_n hx hb dL_law_216 rfl (lv_at hl 1 rfl) ?_
    refine lv_iload hx hb dL_law_217 (lv_at hl 5 rfl) ?_
    refine lv_iconst (v := 1) hx hb dL_law_219 (by decide) ?_
    refine lv_iadd hx hb dL_law_220 ?_
    refine va_sld hx hb hX hbl hbA hS.2.2 h1 dL_law_221 ?_
    refine lv_aload_n hx hb dL_law_222 rfl (lv_at hl 1 rfl) ?_
    refine lv_iload hx hb dL_law_223 (lv_at hl 5 rfl) ?_
    refine lv_iconst (v := 2) hx hb dL_law_225 (by decide) ?_
    refine lv_iadd hx hb dL_law_226 ?_
    refine va_sld hx hb hX hbl hbA hS.2.2 h2 dL_law_227 ?_
    refine r_ci hS (r_runV (As := [.int (xs (i + 1).toNatClampNeg), .int (xs (i + 2).toNatClampNeg)]) (rest := []) X hS (c_X7_put l hE (D := D) (cI := cI) (cG := cG) (cL := cL) (w := WW cI cG cL adE ad hh o) (ad := ad) (WW_model hh o) f2) (cwV 2 X.1.2.2.2.2 hL_X7_put rfl rfl rfl (by decide +kernel) ⟨Nat.le_of_ble_eq_true rfl, Nat.le_of_ble_eq_true rfl⟩) (q0 := 85) (ci := 5) rfl ((WW_model hh o).1 μ).1 rfl hl.1 rfl (Nat.le_of_ble_eq_true rfl) dL_law_228 ⟨hc, hs⟩) (fun H locs hS => ?_)
    refine lv_istore (lv' := [(6, .int r), (5, .int 2), (0, .ref b), (1, .ref (ad 0)), (2, .ref (ad 85)), (3, .ref (ad 92)), (4, .int i)]) hx hb dL_law_231 hl (by decide) rfl (fun ls hl => ?_)
    refine lv_aload_n hx hb dL_law_233 rfl (lv_at hl 4 rfl) ?_
    refine r_ci hS (r_runV (As := []) (rest := []) X hS (c_X7_thrown l hE (D := D) (cI := cI) (cG := cG) (cL := cL) (w := WW cI cG cL adE ad hh o) (ad := ad) (WW_model hh o) f3) (cwV 0 X.1.2.2.2.2 hL_X7_thrown rfl rfl rfl (by decide +kernel) ⟨Nat.le_of_ble_eq_true rfl, Nat.le_of_ble_eq_true rfl⟩) (q0 := 85) (ci := 5) rfl ((WW_model hh o).1 μ').1 rfl hl.1 rfl (Nat.le_of_ble_eq_true rfl) dL_law_234 ⟨hc, hs⟩) (fun H locs hS => ?_)
    refine lv_iload hx hb dL_law_237 (lv_at hl 1 rfl) ?_
    refine lv_icmp_eq (tgt := 244) hx hb dL_law_239 (by decide) (fun _ => ?_) (fun cc => absurd rfl cc)
    refine lv_iload hx hb dL_law_244 (lv_at hl 1 rfl) ?_
    refine lv_if_ne (tgt := 261) hx hb dL_law_246 (by decide) (fun _ => ?_) (fun cc => absurd cc (by decide))
    refine lv_goto (tgt := 1405) hx hb dL_law_261 (by decide) ?_
    exact kend o H locs ls hS (lv_sub hl [2, 3, 4, 5, 6] rfl)
def St_2 (a1 a2 : Int32) (μ μ' : Mem) : Prop := (∃ (r : Int32) (μ1 : Mem), f_X6_remove 0 a1 μ = some (r, μ1) ∧ f_X7_remove 85 a1 μ1 = some (r, μ') ∧ f_X7_thrown 85 μ' = some 0) ∨ (f_X6_remove_t 0 a1 μ = some 2 ∧ ∃ r : Int32, f_X7_remove 85 a1 μ = some (r, μ') ∧ f_X7_thrown 85 μ' = some 1) ∨ (f_X6_remove_t 0 a1 μ = some 3 ∧ ∃ r : Int32, f_X7_remove 85 a1 μ = some (r, μ') ∧ f_X7_thrown 85 μ' = some 2)
set_option maxHeartbeats 4000000 in
set_option maxRecDepth 100000 in
theorem k_L_2 (l : Launch) {D : va_G} {cI cG cL : ClassId} {A : Nat → Prop} {tC tS : Nat} {adE adK adV ad : Nat → Nat} (hE : EnOK (ENV tC tS adE adK adV A) A) (hst : l.stackTraces = false) {p : Program} {e : Env} {s : State} {m : MethodId} {below : List Frame} {meth : Method} {c : Code} {b L : Nat} {xs : Nat → Int32} (X : Cx p s m #[.ref b] c cL_law 7 vsL_law RL D (tyl cI cG cL) A (ENV tC tS adE adK adV A)) (hX : va_X b L xs s s.heap) (hbl : b < s.heap.size) (hbA : ¬ A b) {H : Heap} {locs : List Loc} {ls : Array Slot} {hh o : Int64} {μ : Mem} {i : Int32} (hS : HS D A (WW cI cG cL adE ad hh o μ) s.heap H locs) (hl : lv_has ls 7 [(0, .ref b), (1, .ref (ad 0)), (2, .ref (ad 85)), (3, .ref (ad 92)), (4, .int i)]) (h1 : vp_in (i + 1) L) (h2 : vp_in (i + 2) L) {cells slots : Nat} (hc : cells + 1 ≤ 601024) (hs : slots + 6 ≤ 7293034) {Q : State → Prop} {μ' : Mem} {hh' : Int64} (st : St_2 (xs (i + 1).toNatClampNeg) (xs (i + 2).toNatClampNeg) μ μ') (eh : hh = hh') (kend : ∀ (o : Int64) (H : Heap) (locs : List Loc) (ls : Array Slot), HS D A (WW cI cG cL adE ad hh' o μ') s.heap H locs → lv_has ls 7 [(0, .ref b), (1, .ref (ad 0)), (2, .ref (ad 85)), (3, .ref (ad 92)), (4, .int i)] → W p l e room_1 s m #[.ref b] below meth c H locs (cells + 1) (slots + 6) Q (F0 m 1405 ls [])) : W p l e room_1 s m #[.ref b] below meth c H locs cells slots Q (F0 m 264 ls []) := by
  subst eh
  have hx := X.1.1
  have hb := X.1.2.1
  rcases st with ⟨r, μ1, f1, f2, f3⟩ | ⟨f1, r, f2, f3⟩ | ⟨f1, r, f2, f3⟩
  · refine lv_aload_n hx hb dL_law_264 rfl (lv_at hl 1 rfl) ?_
    refine lv_aload_n hx hb dL_law_265 rfl (lv_at hl 0 rfl) ?_
    refine lv_iload hx hb dL_law_266 (lv_at hl 4 rfl) ?_
    refine lv_iconst (v := 1) hx hb dL_law_268 (by decide) ?_
    refine lv_iadd hx hb dL_law_269 ?_
    refine va_sld hx hb hX hbl hbA hS.2.2 h1 dL_law_270 ?_
    refine lv_aload_n hx hb dL_law_271 rfl (lv_at hl 3 rfl) ?_
    refine r_cim hS (r_runSW (mc := 0) (ms := 0) (As := [.ref (ad 0), .int (xs (i + 1).toNatClampNeg), .ref (ad 92)]) (rest := []) X hS (o_L_remove l hE (D := D) (cI := cI) (cG := cG) (cL := cL) (wo := WW cI cG cL adE ad hh) (ad := ad) (q := 0) (qo := 92) (o := o) (μ := μ) (fun o => WW_pg hh o) (WW_out hh) f1) (vx_cwSW (hh := [(0, 9, 12, 19), (0, 9, 15, 13)]) 3 X.1.2.2.2.2 hL_L_remove rfl rfl rfl (by decide +kernel) ⟨Nat.le_of_ble_eq_true rfl, Nat.le_of_ble_eq_true rfl⟩) rfl hl.1 rfl (Nat.le_of_ble_eq_true rfl) dL_law_272 ⟨Nat.le_of_lt hc, Nat.le_trans (Nat.le_add_right slots 6) hs⟩) (fun H locs hS => ?_)
    refine lv_istore (lv' := [(5, .int 0), (0, .ref b), (1, .ref (ad 0)), (2, .ref (ad 85)), (3, .ref (ad 92)), (4, .int i)]) hx hb dL_law_275 hl (by decide) rfl (fun ls hl => ?_)
    refine lv_aload_n hx hb dL_law_277 rfl (lv_at hl 3 rfl) ?_
    refine lv_aload_n hx hb dL_law_278 rfl (lv_at hl 1 rfl) ?_
    refine lv_iload hx hb dL_law_279 (lv_at hl 5 rfl) ?_
    refine lv_iconst (v := 1) hx hb dL_law_281 (by decide) ?_
    refine lv_iadd hx hb dL_law_282 ?_
    refine va_sld hx hb hX hbl hbA hS.2.2 h1 dL_law_283 ?_
    refine r_ci hS (r_runV (As := [.int (xs (i + 1).toNatClampNeg)]) (rest := []) X hS (c_X7_remove l hE (D := D) (cI := cI) (cG := cG) (cL := cL) (w := WW cI cG cL adE ad hh r.toInt64) (ad := ad) (WW_model hh r.toInt64) f2) (cwV 1 X.1.2.2.2.2 hL_X7_remove rfl rfl rfl (by decide +kernel) ⟨Nat.le_of_ble_eq_true rfl, Nat.le_of_ble_eq_true rfl⟩) (q0 := 85) (ci := 5) rfl ((WW_model hh r.toInt64).1 μ1).1 rfl hl.1 rfl (Nat.le_of_ble_eq_true rfl) dL_law_284 ⟨Nat.le_of_lt hc, Nat.le_trans (Nat.le_add_right slots 6) hs⟩) (fun H locs hS => ?_)
    refine lv_istore (lv' := [(6, .int r), (5, .int 0), (0, .ref b), (1, .ref (ad 0)), (2, .ref (ad 85)), (3, .ref (ad 92)), (4, .int i)]) hx hb dL_law_287 hl (by decide) rfl (fun ls hl => ?_)
    refine lv_aload_n hx hb dL_law_289 rfl (lv_at hl 4 rfl) ?_
    refine r_ci hS (r_runV (As := []) (rest := []) X hS (c_X7_thrown l hE (D := D) (cI := cI) (cG := cG) (cL := cL) (w := WW cI cG cL adE ad hh r.toInt64) (ad := ad) (WW_model hh r.toInt64) f3) (cwV 0 X.1.2.2.2.2 hL_X7_thrown rfl rfl rfl (by decide +kernel) ⟨Nat.le_of_ble_eq_true rfl, Nat.le_of_ble_eq_true rfl⟩) (q0 := 85) (ci := 5) rfl ((WW_model hh r.toInt64).1 μ').1 rfl hl.1 rfl (Nat.le_of_ble_eq_true rfl) dL_law_290 ⟨Nat.le_of_lt hc, Nat.le_trans (Nat.le_add_right slots 6) hs⟩) (fun H locs hS => ?_)
    refine lv_iload hx hb dL_law_293 (lv_at hl 1 rfl) ?_
    refine lv_icmp_eq (tgt := 300) hx hb dL_law_295 (by decide) (fun _ => ?_) (fun cc => absurd rfl cc)
    refine lv_iload hx hb dL_law_300 (lv_at hl 1 rfl) ?_
    refine lv_if_ne (tgt := 317) hx hb dL_law_302 (by decide) (fun cc => absurd rfl cc) (fun _ => ?_)
    refine lv_aload_n hx hb dL_law_305 rfl (lv_at hl 5 rfl) ?_
    refine lv_iconst (v := 0) hx hb dL_law_306 (by decide) ?_
    refine r_lald X hS (WW_out hh) dL_law_307 ?_
    refine lv_iload hx hb dL_law_308 (lv_at hl 0 rfl) ?_
    refine lv_i2l (v := r.toInt64) hx hb dL_law_310 rfl ?_
    refine W.lcmp hx hb dL_law_311 ?_
    refine lv_if_eq (tgt := 317) hx hb dL_law_312 (by decide) (fun _ => ?_) (fun cc => absurd (lg_self _) cc)
    refine lv_goto (tgt := 1405) hx hb dL_law_317 (by decide) ?_
    refine W.widen (k := cells + 1) (n := slots + 6) (Nat.le_succ _) (Nat.le_add_right _ _) ?_
    exact kend r.toInt64 H locs ls hS (lv_sub hl [2, 3, 4, 5, 6] rfl)
  · refine lv_aload_n hx hb dL_law_264 rfl (lv_at hl 1 rfl) ?_
    refine lv_aload_n hx hb dL_law_265 rfl (lv_at hl 0 rfl) ?_
    refine lv_iload hx hb dL_law_266 (lv_at hl 4 rfl) ?_
    refine lv_iconst (v := 1) hx hb dL_law_268 (by decide) ?_
    refine lv_iadd hx hb dL_law_269 ?_
    refine va_sld hx hb hX hbl hbA hS.2.2 h1 dL_law_270 ?_
    refine lv_aload_n hx hb dL_law_271 rfl (lv_at hl 3 rfl) ?_
    refine r_cim hS (r_runSW (mc := 1) (ms := 6) (As := [.ref (ad 0), .int (xs (i + 1).toNatClampNeg), .ref (ad 92)]) (rest := []) X hS (x_L_remove_2 l hE (D := D) (cI := cI) (cG := cG) (cL := cL) (wo := WW cI cG cL adE ad hh) (ad := ad) (q := 0) (qo := 92) (o := o) (μ := μ) (fun o => WW_pg hh o) (WW_out hh) hst f1) (vx_cwSW (hh := [(0, 9, 12, 19), (0, 9, 15, 13)]) 3 X.1.2.2.2.2 hL_L_remove rfl rfl rfl (by decide +kernel) ⟨Nat.le_of_ble_eq_true rfl, Nat.le_of_ble_eq_true rfl⟩) rfl hl.1 rfl (Nat.le_of_ble_eq_true rfl) dL_law_272 ⟨hc, hs⟩) (fun H locs hS => ?_)
    refine lv_istore (lv' := [(5, .int 1), (0, .ref b), (1, .ref (ad 0)), (2, .ref (ad 85)), (3, .ref (ad 92)), (4, .int i)]) hx hb dL_law_275 hl (by decide) rfl (fun ls hl => ?_)
    refine lv_aload_n hx hb dL_law_277 rfl (lv_at hl 3 rfl) ?_
    refine lv_aload_n hx hb dL_law_278 rfl (lv_at hl 1 rfl) ?_
    refine lv_iload hx hb dL_law_279 (lv_at hl 5 rfl) ?_
    refine lv_iconst (v := 1) hx hb dL_law_281 (by decide) ?_
    refine lv_iadd hx hb dL_law_282 ?_
    refine va_sld hx hb hX hbl hbA hS.2.2 h1 dL_law_283 ?_
    refine r_ci hS (r_runV (As := [.int (xs (i + 1).toNatClampNeg)]) (rest := []) X hS (c_X7_remove l hE (D := D) (cI := cI) (cG := cG) (cL := cL) (w := WW cI cG cL adE ad hh o) (ad := ad) (WW_model hh o) f2) (cwV 1 X.1.2.2.2.2 hL_X7_remove rfl rfl rfl (by decide +kernel) ⟨Nat.le_of_ble_eq_true rfl, Nat.le_of_ble_eq_true rfl⟩) (q0 := 85) (ci := 5) rfl ((WW_model hh o).1 μ).1 rfl hl.1 rfl (Nat.le_of_ble_eq_true rfl) dL_law_284 ⟨hc, hs⟩) (fun H locs hS => ?_)
    refine lv_istore (lv' := [(6, .int r), (5, .int 1), (0, .ref b), (1, .ref (ad 0)), (2, .ref (ad 85)), (3, .ref (ad 92)), (4, .int i)]) hx hb dL_law_287 hl (by decide) rfl (fun ls hl => ?_)
    refine lv_aload_n hx hb dL_law_289 rfl (lv_at hl 4 rfl) ?_
    refine r_ci hS (r_runV (As := []) (rest := []) X hS (c_X7_thrown l hE (D := D) (cI := cI) (cG := cG) (cL := cL) (w := WW cI cG cL adE ad hh o) (ad := ad) (WW_model hh o) f3) (cwV 0 X.1.2.2.2.2 hL_X7_thrown rfl rfl rfl (by decide +kernel) ⟨Nat.le_of_ble_eq_true rfl, Nat.le_of_ble_eq_true rfl⟩) (q0 := 85) (ci := 5) rfl ((WW_model hh o).1 μ').1 rfl hl.1 rfl (Nat.le_of_ble_eq_true rfl) dL_law_290 ⟨hc, hs⟩) (fun H locs hS => ?_)
    refine lv_iload hx hb dL_law_293 (lv_at hl 1 rfl) ?_
    refine lv_icmp_eq (tgt := 300) hx hb dL_law_295 (by decide) (fun _ => ?_) (fun cc => absurd rfl cc)
    refine lv_iload hx hb dL_law_300 (lv_at hl 1 rfl) ?_
    refine lv_if_ne (tgt := 317) hx hb dL_law_302 (by decide) (fun _ => ?_) (fun cc => absurd cc (by decide))
    refine lv_goto (tgt := 1405) hx hb dL_law_317 (by decide) ?_
    exact kend o H locs ls hS (lv_sub hl [2, 3, 4, 5, 6] rfl)
  · refine lv_aload_n hx hb dL_law_264 rfl (lv_at hl 1 rfl) ?_
    refine lv_aload_n hx hb dL_law_265 rfl (lv_at hl 0 rfl) ?_
    refine lv_iload hx hb dL_law_266 (lv_at hl 4 rfl) ?_
    refine lv_iconst (v := 1) hx hb dL_law_268 (by decide) ?_
    refine lv_iadd hx hb dL_law_269 ?_
    refine va_sld hx hb hX hbl hbA hS.2.2 h1 dL_law_270 ?_
    refine lv_aload_n hx hb dL_law_271 rfl (lv_at hl 3 rfl) ?_
    refine r_cim hS (r_runSW (mc := 1) (ms := 6) (As := [.ref (ad 0), .int (xs (i + 1).toNatClampNeg), .ref (ad 92)]) (rest := []) X hS (x_L_remove_3 l hE (D := D) (cI := cI) (cG := cG) (cL := cL) (wo := WW cI cG cL adE ad hh) (ad := ad) (q := 0) (qo := 92) (o := o) (μ := μ) (fun o => WW_pg hh o) (WW_out hh) hst f1) (vx_cwSW (hh := [(0, 9, 12, 19), (0, 9, 15, 13)]) 3 X.1.2.2.2.2 hL_L_remove rfl rfl rfl (by decide +kernel) ⟨Nat.le_of_ble_eq_true rfl, Nat.le_of_ble_eq_true rfl⟩) rfl hl.1 rfl (Nat.le_of_ble_eq_true rfl) dL_law_272 ⟨hc, hs⟩) (fun H locs hS => ?_)
    refine lv_istore (lv' := [(5, .int 2), (0, .ref b), (1, .ref (ad 0)), (2, .ref (ad 85)), (3, .ref (ad 92)), (4, .int i)]) hx hb dL_law_275 hl (by decide) rfl (fun ls hl => ?_)
    refine lv_aload_n hx hb dL_law_277 rfl (lv_at hl 3 rfl) ?_
    refine lv_aload_n hx hb dL_law_278 rfl (lv_at hl 1 rfl) ?_
    refine lv_iload hx hb dL_law_279 (lv_at hl 5 rfl) ?_
    refine lv_iconst (v := 1) hx hb dL_law_281 (by decide) ?_
    refine lv_iadd hx hb dL_law_282 ?_
    refine va_sld hx hb hX hbl hbA hS.2.2 h1 dL_law_283 ?_
    refine r_ci hS (r_runV (As := [.int (xs (i + 1).toNatClampNeg)]) (rest := []) X hS (c_X7_remove l hE (D := D) (cI := cI) (cG := cG) (cL := cL) (w := WW cI cG cL adE ad hh o) (ad := ad) (WW_model hh o) f2) (cwV 1 X.1.2.2.2.2 hL_X7_remove rfl rfl rfl (by decide +kernel) ⟨Nat.le_of_ble_eq_true rfl, Nat.le_of_ble_eq_true rfl⟩) (q0 := 85) (ci := 5) rfl ((WW_model hh o).1 μ).1 rfl hl.1 rfl (Nat.le_of_ble_eq_true rfl) dL_law_284 ⟨hc, hs⟩) (fun H locs hS => ?_)
    refine lv_istore (lv' := [(6, .int r), (5, .int 2), (0, .ref b), (1, .ref (ad 0)), (2, .ref (ad 85)), (3, .ref (ad 92)), (4, .int i)]) hx hb dL_law_287 hl (by decide) rfl (fun ls hl => ?_)
    refine lv_aload_n hx hb dL_law_289 rfl (lv_at hl 4 rfl) ?_
    refine r_ci hS (r_runV (As := []) (rest := []) X hS (c_X7_thrown l hE (D := D) (cI := cI) (cG := cG) (cL := cL) (w := WW cI cG cL adE ad hh o) (ad := ad) (WW_model hh o) f3) (cwV 0 X.1.2.2.2.2 hL_X7_thrown rfl rfl rfl (by decide +kernel) ⟨Nat.le_of_ble_eq_true rfl, Nat.le_of_ble_eq_true rfl⟩) (q0 := 85) (ci := 5) rfl ((WW_model hh o).1 μ').1 rfl hl.1 rfl (Nat.le_of_ble_eq_true rfl) dL_law_290 ⟨hc, hs⟩) (fun H locs hS => ?_)
    refine lv_iload hx hb dL_law_293 (lv_at hl 1 rfl) ?_
    refine lv_icmp_eq (tgt := 300) hx hb dL_law_295 (by decide) (fun _ => ?_) (fun cc => absurd rfl cc)
    refine lv_iload hx hb dL_law_300 (lv_at hl 1 rfl) ?_
    refine lv_if_ne (tgt := 317) hx hb dL_law_302 (by decide) (fun _ => ?_) (fun cc => absurd cc (by decide))
    refine lv_goto (tgt := 1405) hx hb dL_law_317 (by decide) ?_
    exact kend o H locs ls hS (lv_sub hl [2, 3, 4, 5, 6] rfl)
def St_3 (a1 a2 : Int32) (μ μ' : Mem) : Prop := (∃ (r : Int32) (μ1 : Mem), f_X6_commit 0 a1 μ = some (r, μ1) ∧ f_X7_commit 85 a1 μ1 = some (r, μ') ∧ f_X7_thrown 85 μ' = some 0) ∨ (f_X6_commit_t 0 a1 μ = some 2 ∧ ∃ r : Int32, f_X7_commit 85 a1 μ = some (r, μ') ∧ f_X7_thrown 85 μ' = some 1) ∨ (f_X6_commit_t 0 a1 μ = some 3 ∧ ∃ r : Int32, f_X7_commit 85 a1 μ = some (r, μ') ∧ f_X7_thrown 85 μ' = some 2)
set_option maxHeartbeats 4000000 in
set_option maxRecDepth 100000 in
theorem k_L_3 (l : Launch) {D : va_G} {cI cG cL : ClassId} {A : Nat → Prop} {tC tS : Nat} {adE adK adV ad : Nat → Nat} (hE : EnOK (ENV tC tS adE adK adV A) A) (hst : l.stackTraces = false) {p : Program} {e : Env} {s : State} {m : MethodId} {below : List Frame} {meth : Method} {c : Code} {b L : Nat} {xs : Nat → Int32} (X : Cx p s m #[.ref b] c cL_law 7 vsL_law RL D (tyl cI cG cL) A (ENV tC tS adE adK adV A)) (hX : va_X b L xs s s.heap) (hbl : b < s.heap.size) (hbA : ¬ A b) {H : Heap} {locs : List Loc} {ls : Array Slot} {hh o : Int64} {μ : Mem} {i : Int32} (hS : HS D A (WW cI cG cL adE ad hh o μ) s.heap H locs) (hl : lv_has ls 7 [(0, .ref b), (1, .ref (ad 0)), (2, .ref (ad 85)), (3, .ref (ad 92)), (4, .int i)]) (h1 : vp_in (i + 1) L) (h2 : vp_in (i + 2) L) {cells slots : Nat} (hc : cells + 1 ≤ 601024) (hs : slots + 6 ≤ 7293034) {Q : State → Prop} {μ' : Mem} {hh' : Int64} (st : St_3 (xs (i + 1).toNatClampNeg) (xs (i + 2).toNatClampNeg) μ μ') (eh : hh = hh') (kend : ∀ (o : Int64) (H : Heap) (locs : List Loc) (ls : Array Slot), HS D A (WW cI cG cL adE ad hh' o μ') s.heap H locs → lv_has ls 7 [(0, .ref b), (1, .ref (ad 0)), (2, .ref (ad 85)), (3, .ref (ad 92)), (4, .int i)] → W p l e room_1 s m #[.ref b] below meth c H locs (cells + 1) (slots + 6) Q (F0 m 1405 ls [])) : W p l e room_1 s m #[.ref b] below meth c H locs cells slots Q (F0 m 320 ls []) := by
  subst eh
  have hx := X.1.1
  have hb := X.1.2.1
  rcases st with ⟨r, μ1, f1, f2, f3⟩ | ⟨f1, r, f2, f3⟩ | ⟨f1, r, f2, f3⟩
  · refine lv_aload_n hx hb dL_law_320 rfl (lv_at hl 1 rfl) ?_
    refine lv_aload_n hx hb dL_law_321 rfl (lv_at hl 0 rfl) ?_
    refine lv_iload hx hb dL_law_322 (lv_at hl 4 rfl) ?_
    refine lv_iconst (v := 1) hx hb dL_law_324 (by decide) ?_
    refine lv_iadd hx hb dL_law_325 ?_
    refine va_sld hx hb hX hbl hbA hS.2.2 h1 dL_law_326 ?_
    refine lv_aload_n hx hb dL_law_327 rfl (lv_at hl 3 rfl) ?_
    refine r_cim hS (r_runSW (mc := 0) (ms := 0) (As := [.ref (ad 0), .int (xs (i + 1).toNatClampNeg), .ref (ad 92)]) (rest := []) X hS (o_L_commit l hE (D := D) (cI := cI) (cG := cG) (cL := cL) (wo := WW cI cG cL adE ad hh) (ad := ad) (q := 0) (qo := 92) (o := o) (μ := μ) (fun o => WW_pg hh o) (WW_out hh) f1) (vx_cwSW (hh := [(0, 9, 12, 19), (0, 9, 15, 13)]) 3 X.1.2.2.2.2 hL_L_commit rfl rfl rfl (by decide +kernel) ⟨Nat.le_of_ble_eq_true rfl, Nat.le_of_ble_eq_true rfl⟩) rfl hl.1 rfl (Nat.le_of_ble_eq_true rfl) dL_law_328 ⟨Nat.le_of_lt hc, Nat.le_trans (Nat.le_add_right slots 6) hs⟩) (fun H locs hS => ?_)
    refine lv_istore (lv' := [(5, .int 0), (0, .ref b), (1, .ref (ad 0)), (2, .ref (ad 85)), (3, .ref (ad 92)), (4, .int i)]) hx hb dL_law_331 hl (by decide) rfl (fun ls hl => ?_)
    refine lv_aload_n hx hb dL_law_333 rfl (lv_at hl 3 rfl) ?_
    refine lv_aload_n hx hb dL_law_334 rfl (lv_at hl 1 rfl) ?_
    refine lv_iload hx hb dL_law_335 (lv_at hl 5 rfl) ?_
    refine lv_iconst (v := 1) hx hb dL_law_337 (by decide) ?_
    refine lv_iadd hx hb dL_law_338 ?_
    refine va_sld hx hb hX hbl hbA hS.2.2 h1 dL_law_339 ?_
    refine r_ci hS (r_runV (As := [.int (xs (i + 1).toNatClampNeg)]) (rest := []) X hS (c_X7_commit l hE (D := D) (cI := cI) (cG := cG) (cL := cL) (w := WW cI cG cL adE ad hh r.toInt64) (ad := ad) (WW_model hh r.toInt64) f2) (cwV 1 X.1.2.2.2.2 hL_X7_commit rfl rfl rfl (by decide +kernel) ⟨Nat.le_of_ble_eq_true rfl, Nat.le_of_ble_eq_true rfl⟩) (q0 := 85) (ci := 5) rfl ((WW_model hh r.toInt64).1 μ1).1 rfl hl.1 rfl (Nat.le_of_ble_eq_true rfl) dL_law_340 ⟨Nat.le_of_lt hc, Nat.le_trans (Nat.le_add_right slots 6) hs⟩) (fun H locs hS => ?_)
    refine lv_istore (lv' := [(6, .int r), (5, .int 0), (0, .ref b), (1, .ref (ad 0)), (2, .ref (ad 85)), (3, .ref (ad 92)), (4, .int i)]) hx hb dL_law_343 hl (by decide) rfl (fun ls hl => ?_)
    refine lv_aload_n hx hb dL_law_345 rfl (lv_at hl 4 rfl) ?_
    refine r_ci hS (r_runV (As := []) (rest := []) X hS (c_X7_thrown l hE (D := D) (cI := cI) (cG := cG) (cL := cL) (w := WW cI cG cL adE ad hh r.toInt64) (ad := ad) (WW_model hh r.toInt64) f3) (cwV 0 X.1.2.2.2.2 hL_X7_thrown rfl rfl rfl (by decide +kernel) ⟨Nat.le_of_ble_eq_true rfl, Nat.le_of_ble_eq_true rfl⟩) (q0 := 85) (ci := 5) rfl ((WW_model hh r.toInt64).1 μ').1 rfl hl.1 rfl (Nat.le_of_ble_eq_true rfl) dL_law_346 ⟨Nat.le_of_lt hc, Nat.le_trans (Nat.le_add_right slots 6) hs⟩) (fun H locs hS => ?_)
    refine lv_iload hx hb dL_law_349 (lv_at hl 1 rfl) ?_
    refine lv_icmp_eq (tgt := 356) hx hb dL_law_351 (by decide) (fun _ => ?_) (fun cc => absurd rfl cc)
    refine lv_iload hx hb dL_law_356 (lv_at hl 1 rfl) ?_
    refine lv_if_ne (tgt := 373) hx hb dL_law_358 (by decide) (fun cc => absurd rfl cc) (fun _ => ?_)
    refine lv_aload_n hx hb dL_law_361 rfl (lv_at hl 5 rfl) ?_
    refine lv_iconst (v := 0) hx hb dL_law_362 (by decide) ?_
    refine r_lald X hS (WW_out hh) dL_law_363 ?_
    refine lv_iload hx hb dL_law_364 (lv_at hl 0 rfl) ?_
    refine lv_i2l (v := r.toInt64) hx hb dL_law_366 rfl ?_
    refine W.lcmp hx hb dL_law_367 ?_
    refine lv_if_eq (tgt := 373) hx hb dL_law_368 (by decide) (fun _ => ?_) (fun cc => absurd (lg_self _) cc)
    refine lv_goto (tgt := 1405) hx hb dL_law_373 (by decide) ?_
    refine W.widen (k := cells + 1) (n := slots + 6) (Nat.le_succ _) (Nat.le_add_right _ _) ?_
    exact kend r.toInt64 H locs ls hS (lv_sub hl [2, 3, 4, 5, 6] rfl)
  · refine lv_aload_n hx hb dL_law_320 rfl (lv_at hl 1 rfl) ?_
    refine lv_aload_n hx hb dL_law_321 rfl (lv_at hl 0 rfl) ?_
    refine lv_iload hx hb dL_law_322 (lv_at hl 4 rfl) ?_
    refine lv_iconst (v := 1) hx hb dL_law_324 (by decide) ?_
    refine lv_iadd hx hb dL_law_325 ?_
    refine va_sld hx hb hX hbl hbA hS.2.2 h1 dL_law_326 ?_
    refine lv_aload_n hx hb dL_law_327 rfl (lv_at hl 3 rfl) ?_
    refine r_cim hS (r_runSW (mc := 1) (ms := 6) (As := [.ref (ad 0), .int (xs (i + 1).toNatClampNeg), .ref (ad 92)]) (rest := []) X hS (x_L_commit_2 l hE (D := D) (cI := cI) (cG := cG) (cL := cL) (wo := WW cI cG cL adE ad hh) (ad := ad) (q := 0) (qo := 92) (o := o) (μ := μ) (fun o => WW_pg hh o) (WW_out hh) hst f1) (vx_cwSW (hh := [(0, 9, 12, 19), (0, 9, 15, 13)]) 3 X.1.2.2.2.2 hL_L_commit rfl rfl rfl (by decide +kernel) ⟨Nat.le_of_ble_eq_true rfl, Nat.le_of_ble_eq_true rfl⟩) rfl hl.1 rfl (Nat.le_of_ble_eq_true rfl) dL_law_328 ⟨hc, hs⟩) (fun H locs hS => ?_)
    refine lv_istore (lv' := [(5, .int 1), (0, .ref b), (1, .ref (ad 0)), (2, .ref (ad 85)), (3, .ref (ad 92)), (4, .int i)]) hx hb dL_law_331 hl (by decide) rfl (fun ls hl => ?_)
    refine lv_aload_n hx hb dL_law_333 rfl (lv_at hl 3 rfl) ?_
    refine lv_aload_n hx hb dL_law_334 rfl (lv_at hl 1 rfl) ?_
    refine lv_iload hx hb dL_law_335 (lv_at hl 5 rfl) ?_
    refine lv_iconst (v := 1) hx hb dL_law_337 (by decide) ?_
    refine lv_iadd hx hb dL_law_338 ?_
    refine va_sld hx hb hX hbl hbA hS.2.2 h1 dL_law_339 ?_
    refine r_ci hS (r_runV (As := [.int (xs (i + 1).toNatClampNeg)]) (rest := []) X hS (c_X7_commit l hE (D := D) (cI := cI) (cG := cG) (cL := cL) (w := WW cI cG cL adE ad hh o) (ad := ad) (WW_model hh o) f2) (cwV 1 X.1.2.2.2.2 hL_X7_commit rfl rfl rfl (by decide +kernel) ⟨Nat.le_of_ble_eq_true rfl, Nat.le_of_ble_eq_true rfl⟩) (q0 := 85) (ci := 5) rfl ((WW_model hh o).1 μ).1 rfl hl.1 rfl (Nat.le_of_ble_eq_true rfl) dL_law_340 ⟨hc, hs⟩) (fun H locs hS => ?_)
    refine lv_istore (lv' := [(6, .int r), (5, .int 1), (0, .ref b), (1, .ref (ad 0)), (2, .ref (ad 85)), (3, .ref (ad 92)), (4, .int i)]) hx hb dL_law_343 hl (by decide) rfl (fun ls hl => ?_)
    refine lv_aload_n hx hb dL_law_345 rfl (lv_at hl 4 rfl) ?_
    refine r_ci hS (r_runV (As := []) (rest := []) X hS (c_X7_thrown l hE (D := D) (cI := cI) (cG := cG) (cL := cL) (w := WW cI cG cL adE ad hh o) (ad := ad) (WW_model hh o) f3) (cwV 0 X.1.2.2.2.2 hL_X7_thrown rfl rfl rfl (by decide +kernel) ⟨Nat.le_of_ble_eq_true rfl, Nat.le_of_ble_eq_true rfl⟩) (q0 := 85) (ci := 5) rfl ((WW_model hh o).1 μ').1 rfl hl.1 rfl (Nat.le_of_ble_eq_true rfl) dL_law_346 ⟨hc, hs⟩) (fun H locs hS => ?_)
    refine lv_iload hx hb dL_law_349 (lv_at hl 1 rfl) ?_
    refine lv_icmp_eq (tgt := 356) hx hb dL_law_351 (by decide) (fun _ => ?_) (fun cc => absurd rfl cc)
    refine lv_iload hx hb dL_law_356 (lv_at hl 1 rfl) ?_
    refine lv_if_ne (tgt := 373) hx hb dL_law_358 (by decide) (fun _ => ?_) (fun cc => absurd cc (by decide))
    refine lv_goto (tgt := 1405) hx hb dL_law_373 (by decide) ?_
    exact kend o H locs ls hS (lv_sub hl [2, 3, 4, 5, 6] rfl)
  · refine lv_aload_n hx hb dL_law_320 rfl (lv_at hl 1 rfl) ?_
    refine lv_aload_n hx hb dL_law_321 rfl (lv_at hl 0 rfl) ?_
    refine lv_iload hx hb dL_law_322 (lv_at hl 4 rfl) ?_
    refine lv_iconst (v := 1) hx hb dL_law_324 (by decide) ?_
    refine lv_iadd hx hb dL_law_325 ?_
    refine va_sld hx hb hX hbl hbA hS.2.2 h1 dL_law_326 ?_
    refine lv_aload_n hx hb dL_law_327 rfl (lv_at hl 3 rfl) ?_
    refine r_cim hS (r_runSW (mc := 1) (ms := 6) (As := [.ref (ad 0), .int (xs (i + 1).toNatClampNeg), .ref (ad 92)]) (rest := []) X hS (x_L_commit_3 l hE (D := D) (cI := cI) (cG := cG) (cL := cL) (wo := WW cI cG cL adE ad hh) (ad := ad) (q := 0) (qo := 92) (o := o) (μ := μ) (fun o => WW_pg hh o) (WW_out hh) hst f1) (vx_cwSW (hh := [(0, 9, 12, 19), (0, 9, 15, 13)]) 3 X.1.2.2.2.2 hL_L_commit rfl rfl rfl (by decide +kernel) ⟨Nat.le_of_ble_eq_true rfl, Nat.le_of_ble_eq_true rfl⟩) rfl hl.1 rfl (Nat.le_of_ble_eq_true rfl) dL_law_328 ⟨hc, hs⟩) (fun H locs hS => ?_)
    refine lv_istore (lv' := [(5, .int 2), (0, .ref b), (1, .ref (ad 0)), (2, .ref (ad 85)), (3, .ref (ad 92)), (4, .int i)]) hx hb dL_law_331 hl (by decide) rfl (fun ls hl => ?_)
    refine lv_aload_n hx hb dL_law_333 rfl (lv_at hl 3 rfl) ?_
    refine lv_aload_n hx hb dL_law_334 rfl (lv_at hl 1 rfl) ?_
    refine lv_iload hx hb dL_law_335 (lv_at hl 5 rfl) ?_
    refine lv_iconst (v := 1) hx hb dL_law_337 (by decide) ?_
    refine lv_iadd hx hb dL_law_338 ?_
    refine va_sld hx hb hX hbl hbA hS.2.2 h1 dL_law_339 ?_
    refine r_ci hS (r_runV (As := [.int (xs (i + 1).toNatClampNeg)]) (rest := []) X hS (c_X7_commit l hE (D := D) (cI := cI) (cG := cG) (cL := cL) (w := WW cI cG cL adE ad hh o) (ad := ad) (WW_model hh o) f2) (cwV 1 X.1.2.2.2.2 hL_X7_commit rfl rfl rfl (by decide +kernel) ⟨Nat.le_of_ble_eq_true rfl, Nat.le_of_ble_eq_true rfl⟩) (q0 := 85) (ci := 5) rfl ((WW_model hh o).1 μ).1 rfl hl.1 rfl (Nat.le_of_ble_eq_true rfl) dL_law_340 ⟨hc, hs⟩) (fun H locs hS => ?_)
    refine lv_istore (lv' := [(6, .int r), (5, .int 2), (0, .ref b), (1, .ref (ad 0)), (2, .ref (ad 85)), (3, .ref (ad 92)), (4, .int i)]) hx hb dL_law_343 hl (by decide) rfl (fun ls hl => ?_)
    refine lv_aload_n hx hb dL_law_345 rfl (lv_at hl 4 rfl) ?_
    refine r_ci hS (r_runV (As := []) (rest := []) X hS (c_X7_thrown l hE (D := D) (cI := cI) (cG := cG) (cL := cL) (w := WW cI cG cL adE ad hh o) (ad := ad) (WW_model hh o) f3) (cwV 0 X.1.2.2.2.2 hL_X7_thrown rfl rfl rfl (by decide +kernel) ⟨Nat.le_of_ble_eq_true rfl, Nat.le_of_ble_eq_true rfl⟩) (q0 := 85) (ci := 5) rfl ((WW_model hh o).1 μ').1 rfl hl.1 rfl (Nat.le_of_ble_eq_true rfl) dL_law_346 ⟨hc, hs⟩) (fun H locs hS => ?_)
    refine lv_iload hx hb dL_law_349 (lv_at hl 1 rfl) ?_
    refine lv_icmp_eq (tgt := 356) hx hb dL_law_351 (by decide) (fun _ => ?_) (fun cc => absurd rfl cc)
    refine lv_iload hx hb dL_law_356 (lv_at hl 1 rfl) ?_
    refine lv_if_ne (tgt := 373) hx hb dL_law_358 (by decide) (fun _ => ?_) (fun cc => absurd cc (by decide))
    refine lv_goto (tgt := 1405) hx hb dL_law_373 (by decide) ?_
    exact kend o H locs ls hS (lv_sub hl [2, 3, 4, 5, 6] rfl)
def St_4 (a1 a2 : Int32) (μ μ' : Mem) : Prop := (∃ (r : Int32) (μ1 : Mem), f_X6_abort 0 μ = some (r, μ1) ∧ f_X7_abort 85 μ1 = some (r, μ') ∧ f_X7_thrown 85 μ' = some 0) ∨ (f_X6_abort_t 0 μ = some 3 ∧ ∃ r : Int32, f_X7_abort 85 μ = some (r, μ') ∧ f_X7_thrown 85 μ' = some 1)
set_option maxHeartbeats 4000000 in
set_option maxRecDepth 100000 in
theorem k_L_4 (l : Launch) {D : va_G} {cI cG cL : ClassId} {A : Nat → Prop} {tC tS : Nat} {adE adK adV ad : Nat → Nat} (hE : EnOK (ENV tC tS adE adK adV A) A) (hst : l.stackTraces = false) {p : Program} {e : Env} {s : State} {m : MethodId} {below : List Frame} {meth : Method} {c : Code} {b L : Nat} {xs : Nat → Int32} (X : Cx p s m #[.ref b] c cL_law 7 vsL_law RL D (tyl cI cG cL) A (ENV tC tS adE adK adV A)) (hX : va_X b L xs s s.heap) (hbl : b < s.heap.size) (hbA : ¬ A b) {H : Heap} {locs : List Loc} {ls : Array Slot} {hh o : Int64} {μ : Mem} {i : Int32} (hS : HS D A (WW cI cG cL adE ad hh o μ) s.heap H locs) (hl : lv_has ls 7 [(0, .ref b), (1, .ref (ad 0)), (2, .ref (ad 85)), (3, .ref (ad 92)), (4, .int i)]) (h1 : vp_in (i + 1) L) (h2 : vp_in (i + 2) L) {cells slots : Nat} (hc : cells + 1 ≤ 601024) (hs : slots + 6 ≤ 7293034) {Q : State → Prop} {μ' : Mem} {hh' : Int64} (st : St_4 (xs (i + 1).toNatClampNeg) (xs (i + 2).toNatClampNeg) μ μ') (eh : hh = hh') (kend : ∀ (o : Int64) (H : Heap) (locs : List Loc) (ls : Array Slot), HS D A (WW cI cG cL adE ad hh' o μ') s.heap H locs → lv_has ls 7 [(0, .ref b), (1, .ref (ad 0)), (2, .ref (ad 85)), (3, .ref (ad 92)), (4, .int i)] → W p l e room_1 s m #[.ref b] below meth c H locs (cells + 1) (slots + 6) Q (F0 m 1405 ls [])) : W p l e room_1 s m #[.ref b] below meth c H locs cells slots Q (F0 m 376 ls []) := by
  subst eh
  have hx := X.1.1
  have hb := X.1.2.1
  rcases st with ⟨r, μ1, f1, f2, f3⟩ | ⟨f1, r, f2, f3⟩
  · refine lv_aload_n hx hb dL_law_376 rfl (lv_at hl 1 rfl) ?_
    refine lv_aload_n hx hb dL_law_377 rfl (lv_at hl 3 rfl) ?_
    refine r_cim hS (r_runSW (mc := 0) (ms := 0) (As := [.ref (ad 0), .ref (ad 92)]) (rest := []) X hS (o_L_abort l hE (D := D) (cI := cI) (cG := cG) (cL := cL) (wo := WW cI cG cL adE ad hh) (ad := ad) (q := 0) (qo := 92) (o := o) (μ := μ) (fun o => WW_pg hh o) (WW_out hh) f1) (vx_cwSW (hh := [(0, 8, 11, 13)]) 2 X.1.2.2.2.2 hL_L_abort rfl rfl rfl (by decide +kernel) ⟨Nat.le_of_ble_eq_true rfl, Nat.le_of_ble_eq_true rfl⟩) rfl hl.1 rfl (Nat.le_of_ble_eq_true rfl) dL_law_378 ⟨Nat.le_of_lt hc, Nat.le_trans (Nat.le_add_right slots 6) hs⟩) (fun H locs hS => ?_)
    refine lv_istore (lv' := [(5, .int 0), (0, .ref b), (1, .ref (ad 0)), (2, .ref (ad 85)), (3, .ref (ad 92)), (4, .int i)]) hx hb dL_law_381 hl (by decide) rfl (fun ls hl => ?_)
    refine lv_aload_n hx hb dL_law_383 rfl (lv_at hl 3 rfl) ?_
    refine r_ci hS (r_runV (As := []) (rest := []) X hS (c_X7_abort l hE (D := D) (cI := cI) (cG := cG) (cL := cL) (w := WW cI cG cL adE ad hh r.toInt64) (ad := ad) (WW_model hh r.toInt64) f2) (cwV 0 X.1.2.2.2.2 hL_X7_abort rfl rfl rfl (by decide +kernel) ⟨Nat.le_of_ble_eq_true rfl, Nat.le_of_ble_eq_true rfl⟩) (q0 := 85) (ci := 5) rfl ((WW_model hh r.toInt64).1 μ1).1 rfl hl.1 rfl (Nat.le_of_ble_eq_true rfl) dL_law_384 ⟨Nat.le_of_lt hc, Nat.le_trans (Nat.le_add_right slots 6) hs⟩) (fun H locs hS => ?_)
    refine lv_istore (lv' := [(6, .int r), (5, .int 0), (0, .ref b), (1, .ref (ad 0)), (2, .ref (ad 85)), (3, .ref (ad 92)), (4, .int i)]) hx hb dL_law_387 hl (by decide) rfl (fun ls hl => ?_)
    refine lv_aload_n hx hb dL_law_389 rfl (lv_at hl 4 rfl) ?_
    refine r_ci hS (r_runV (As := []) (rest := []) X hS (c_X7_thrown l hE (D := D) (cI := cI) (cG := cG) (cL := cL) (w := WW cI cG cL adE ad hh r.toInt64) (ad := ad) (WW_model hh r.toInt64) f3) (cwV 0 X.1.2.2.2.2 hL_X7_thrown rfl rfl rfl (by decide +kernel) ⟨Nat.le_of_ble_eq_true rfl, Nat.le_of_ble_eq_true rfl⟩) (q0 := 85) (ci := 5) rfl ((WW_model hh r.toInt64).1 μ').1 rfl hl.1 rfl (Nat.le_of_ble_eq_true rfl) dL_law_390 ⟨Nat.le_of_lt hc, Nat.le_trans (Nat.le_add_right slots 6) hs⟩) (fun H locs hS => ?_)
    refine lv_iload hx hb dL_law_393 (lv_at hl 1 rfl) ?_
    refine lv_icmp_eq (tgt := 400) hx hb dL_law_395 (by decide) (fun _ => ?_) (fun cc => absurd rfl cc)
    refine lv_iload hx hb dL_law_400 (lv_at hl 1 rfl) ?_
    refine lv_if_ne (tgt := 417) hx hb dL_law_402 (by decide) (fun cc => absurd rfl cc) (fun _ => ?_)
    refine lv_aload_n hx hb dL_law_405 rfl (lv_at hl 5 rfl) ?_
    refine lv_iconst (v := 0) hx hb dL_law_406 (by decide) ?_
    refine r_lald X hS (WW_out hh) dL_law_407 ?_
    refine lv_iload hx hb dL_law_408 (lv_at hl 0 rfl) ?_
    refine lv_i2l (v := r.toInt64) hx hb dL_law_410 rfl ?_
    refine W.lcmp hx hb dL_law_411 ?_
    refine lv_if_eq (tgt := 417) hx hb dL_law_412 (by decide) (fun _ => ?_) (fun cc => absurd (lg_self _) cc)
    refine lv_goto (tgt := 1405) hx hb dL_law_417 (by decide) ?_
    refine W.widen (k := cells + 1) (n := slots + 6) (Nat.le_succ _) (Nat.le_add_right _ _) ?_
    exact kend r.toInt64 H locs ls hS (lv_sub hl [2, 3, 4, 5, 6] rfl)
  · refine lv_aload_n hx hb dL_law_376 rfl (lv_at hl 1 rfl) ?_
    refine lv_aload_n hx hb dL_law_377 rfl (lv_at hl 3 rfl) ?_
    refine r_cim hS (r_runSW (mc := 1) (ms := 6) (As := [.ref (ad 0), .ref (ad 92)]) (rest := []) X hS (x_L_abort_3 l hE (D := D) (cI := cI) (cG := cG) (cL := cL) (wo := WW cI cG cL adE ad hh) (ad := ad) (q := 0) (qo := 92) (o := o) (μ := μ) (fun o => WW_pg hh o) (WW_out hh) hst f1) (vx_cwSW (hh := [(0, 8, 11, 13)]) 2 X.1.2.2.2.2 hL_L_abort rfl rfl rfl (by decide +kernel) ⟨Nat.le_of_ble_eq_true rfl, Nat.le_of_ble_eq_true rfl⟩) rfl hl.1 rfl (Nat.le_of_ble_eq_true rfl) dL_law_378 ⟨hc, hs⟩) (fun H locs hS => ?_)
    refine lv_istore (lv' := [(5, .int 1), (0, .ref b), (1, .ref (ad 0)), (2, .ref (ad 85)), (3, .ref (ad 92)), (4, .int i)]) hx hb dL_law_381 hl (by decide) rfl (fun ls hl => ?_)
    refine lv_aload_n hx hb dL_law_383 rfl (lv_at hl 3 rfl) ?_
    refine r_ci hS (r_runV (As := []) (rest := []) X hS (c_X7_abort l hE (D := D) (cI := cI) (cG := cG) (cL := cL) (w := WW cI cG cL adE ad hh o) (ad := ad) (WW_model hh o) f2) (cwV 0 X.1.2.2.2.2 hL_X7_abort rfl rfl rfl (by decide +kernel) ⟨Nat.le_of_ble_eq_true rfl, Nat.le_of_ble_eq_true rfl⟩) (q0 := 85) (ci := 5) rfl ((WW_model hh o).1 μ).1 rfl hl.1 rfl (Nat.le_of_ble_eq_true rfl) dL_law_384 ⟨hc, hs⟩) (fun H locs hS => ?_)
    refine lv_istore (lv' := [(6, .int r), (5, .int 1), (0, .ref b), (1, .ref (ad 0)), (2, .ref (ad 85)), (3, .ref (ad 92)), (4, .int i)]) hx hb dL_law_387 hl (by decide) rfl (fun ls hl => ?_)
    refine lv_aload_n hx hb dL_law_389 rfl (lv_at hl 4 rfl) ?_
    refine r_ci hS (r_runV (As := []) (rest := []) X hS (c_X7_thrown l hE (D := D) (cI := cI) (cG := cG) (cL := cL) (w := WW cI cG cL adE ad hh o) (ad := ad) (WW_model hh o) f3) (cwV 0 X.1.2.2.2.2 hL_X7_thrown rfl rfl rfl (by decide +kernel) ⟨Nat.le_of_ble_eq_true rfl, Nat.le_of_ble_eq_true rfl⟩) (q0 := 85) (ci := 5) rfl ((WW_model hh o).1 μ').1 rfl hl.1 rfl (Nat.le_of_ble_eq_true rfl) dL_law_390 ⟨hc, hs⟩) (fun H locs hS => ?_)
    refine lv_iload hx hb dL_law_393 (lv_at hl 1 rfl) ?_
    refine lv_icmp_eq (tgt := 400) hx hb dL_law_395 (by decide) (fun _ => ?_) (fun cc => absurd rfl cc)
    refine lv_iload hx hb dL_law_400 (lv_at hl 1 rfl) ?_
    refine lv_if_ne (tgt := 417) hx hb dL_law_402 (by decide) (fun _ => ?_) (fun cc => absurd cc (by decide))
    refine lv_goto (tgt := 1405) hx hb dL_law_417 (by decide) ?_
    exact kend o H locs ls hS (lv_sub hl [2, 3, 4, 5, 6] rfl)
def St_5 (a1 a2 : Int32) (μ μ' : Mem) : Prop := (∃ (r : Int32) (μ1 : Mem), f_X6_open 0 μ = some (r, μ1) ∧ f_X7_open 85 μ1 = some (r, μ') ∧ f_X7_thrown 85 μ' = some 0) ∨ (f_X6_open_t 0 μ = some 3 ∧ ∃ r : Int32, f_X7_open 85 μ = some (r, μ') ∧ f_X7_thrown 85 μ' = some 1)
set_option maxHeartbeats 4000000 in
set_option maxRecDepth 100000 in
theorem k_L_5 (l : Launch) {D : va_G} {cI cG cL : ClassId} {A : Nat → Prop} {tC tS : Nat} {adE adK adV ad : Nat → Nat} (hE : EnOK (ENV tC tS adE adK adV A) A) (hst : l.stackTraces = false) {p : Program} {e : Env} {s : State} {m : MethodId} {below : List Frame} {meth : Method} {c : Code} {b L : Nat} {xs : Nat → Int32} (X : Cx p s m #[.ref b] c cL_law 7 vsL_law RL D (tyl cI cG cL) A (ENV tC tS adE adK adV A)) (hX : va_X b L xs s s.heap) (hbl : b < s.heap.size) (hbA : ¬ A b) {H : Heap} {locs : List Loc} {ls : Array Slot} {hh o : Int64} {μ : Mem} {i : Int32} (hS : HS D A (WW cI cG cL adE ad hh o μ) s.heap H locs) (hl : lv_has ls 7 [(0, .ref b), (1, .ref (ad 0)), (2, .ref (ad 85)), (3, .ref (ad 92)), (4, .int i)]) (h1 : vp_in (i + 1) L) (h2 : vp_in (i + 2) L) {cells slots : Nat} (hc : cells + 1 ≤ 601024) (hs : slots + 6 ≤ 7293034) {Q : State → Prop} {μ' : Mem} {hh' : Int64} (st : St_5 (xs (i + 1).toNatClampNeg) (xs (i + 2).toNatClampNeg) μ μ') (eh : hh = hh') (kend : ∀ (o : Int64) (H : Heap) (locs : List Loc) (ls : Array Slot), HS D A (WW cI cG cL adE ad hh' o μ') s.heap H locs → lv_has ls 7 [(0, .ref b), (1, .ref (ad 0)), (2, .ref (ad 85)), (3, .ref (ad 92)), (4, .int i)] → W p l e room_1 s m #[.ref b] below meth c H locs (cells + 1) (slots + 6) Q (F0 m 1405 ls [])) : W p l e room_1 s m #[.ref b] below meth c H locs cells slots Q (F0 m 420 ls []) := by
  subst eh
  have hx := X.1.1
  have hb := X.1.2.1
  rcases st with ⟨r, μ1, f1, f2, f3⟩ | ⟨f1, r, f2, f3⟩
  · refine lv_aload_n hx hb dL_law_420 rfl (lv_at hl 1 rfl) ?_
    refine lv_aload_n hx hb dL_law_421 rfl (lv_at hl 3 rfl) ?_
    refine r_cim hS (r_runSW (mc := 0) (ms := 0) (As := [.ref (ad 0), .ref (ad 92)]) (rest := []) X hS (o_L_open l hE (D := D) (cI := cI) (cG := cG) (cL := cL) (wo := WW cI cG cL adE ad hh) (ad := ad) (q := 0) (qo := 92) (o := o) (μ := μ) (fun o => WW_pg hh o) (WW_out hh) f1) (vx_cwSW (hh := [(0, 8, 11, 13)]) 2 X.1.2.2.2.2 hL_L_open rfl rfl rfl (by decide +kernel) ⟨Nat.le_of_ble_eq_true rfl, Nat.le_of_ble_eq_true rfl⟩) rfl hl.1 rfl (Nat.le_of_ble_eq_true rfl) dL_law_422 ⟨Nat.le_of_lt hc, Nat.le_trans (Nat.le_add_right slots 6) hs⟩) (fun H locs hS => ?_)
    refine lv_istore (lv' := [(5, .int 0), (0, .ref b), (1, .ref (ad 0)), (2, .ref (ad 85)), (3, .ref (ad 92)), (4, .int i)]) hx hb dL_law_425 hl (by decide) rfl (fun ls hl => ?_)
    refine lv_aload_n hx hb dL_law_427 rfl (lv_at hl 3 rfl) ?_
    refine r_ci hS (r_runV (As := []) (rest := []) X hS (c_X7_open l hE (D := D) (cI := cI) (cG := cG) (cL := cL) (w := WW cI cG cL adE ad hh r.toInt64) (ad := ad) (WW_model hh r.toInt64) f2) (cwV 0 X.1.2.2.2.2 hL_X7_open rfl rfl rfl (by decide +kernel) ⟨Nat.le_of_ble_eq_true rfl, Nat.le_of_ble_eq_true rfl⟩) (q0 := 85) (ci := 5) rfl ((WW_model hh r.toInt64).1 μ1).1 rfl hl.1 rfl (Nat.le_of_ble_eq_true rfl) dL_law_428 ⟨Nat.le_of_lt hc, Nat.le_trans (Nat.le_add_right slots 6) hs⟩) (fun H locs hS => ?_)
    refine lv_istore (lv' := [(6, .int r), (5, .int 0), (0, .ref b), (1, .ref (ad 0)), (2, .ref (ad 85)), (3, .ref (ad 92)), (4, .int i)]) hx hb dL_law_431 hl (by decide) rfl (fun ls hl => ?_)
    refine lv_aload_n hx hb dL_law_433 rfl (lv_at hl 4 rfl) ?_
    refine r_ci hS (r_runV (As := []) (rest := []) X hS (c_X7_thrown l hE (D := D) (cI := cI) (cG := cG) (cL := cL) (w := WW cI cG cL adE ad hh r.toInt64) (ad := ad) (WW_model hh r.toInt64) f3) (cwV 0 X.1.2.2.2.2 hL_X7_thrown rfl rfl rfl (by decide +kernel) ⟨Nat.le_of_ble_eq_true rfl, Nat.le_of_ble_eq_true rfl⟩) (q0 := 85) (ci := 5) rfl ((WW_model hh r.toInt64).1 μ').1 rfl hl.1 rfl (Nat.le_of_ble_eq_true rfl) dL_law_434 ⟨Nat.le_of_lt hc, Nat.le_trans (Nat.le_add_right slots 6) hs⟩) (fun H locs hS => ?_)
    refine lv_iload hx hb dL_law_437 (lv_at hl 1 rfl) ?_
    refine lv_icmp_eq (tgt := 444) hx hb dL_law_439 (by decide) (fun _ => ?_) (fun cc => absurd rfl cc)
    refine lv_iload hx hb dL_law_444 (lv_at hl 1 rfl) ?_
    refine lv_if_ne (tgt := 461) hx hb dL_law_446 (by decide) (fun cc => absurd rfl cc) (fun _ => ?_)
    refine lv_aload_n hx hb dL_law_449 rfl (lv_at hl 5 rfl) ?_
    refine lv_iconst (v := 0) hx hb dL_law_450 (by decide) ?_
    refine r_lald X hS (WW_out hh) dL_law_451 ?_
    refine lv_iload hx hb dL_law_452 (lv_at hl 0 rfl) ?_
    refine lv_i2l (v := r.toInt64) hx hb dL_law_454 rfl ?_
    refine W.lcmp hx hb dL_law_455 ?_
    refine lv_if_eq (tgt := 461) hx hb dL_law_456 (by decide) (fun _ => ?_) (fun cc => absurd (lg_self _) cc)
    refine lv_goto (tgt := 1405) hx hb dL_law_461 (by decide) ?_
    refine W.widen (k := cells + 1) (n := slots + 6) (Nat.le_succ _) (Nat.le_add_right _ _) ?_
    exact kend r.toInt64 H locs ls hS (lv_sub hl [2, 3, 4, 5, 6] rfl)
  · refine lv_aload_n hx hb dL_law_420 rfl (lv_at hl 1 rfl) ?_
    refine lv_aload_n hx hb dL_law_421 rfl (lv_at hl 3 rfl) ?_
    refine r_cim hS (r_runSW (mc := 1) (ms := 6) (As := [.ref (ad 0), .ref (ad 92)]) (rest := []) X hS (x_L_open_3 l hE (D := D) (cI := cI) (cG := cG) (cL := cL) (wo := WW cI cG cL adE ad hh) (ad := ad) (q := 0) (qo := 92) (o := o) (μ := μ) (fun o => WW_pg hh o) (WW_out hh) hst f1) (vx_cwSW (hh := [(0, 8, 11, 13)]) 2 X.1.2.2.2.2 hL_L_open rfl rfl rfl (by decide +kernel) ⟨Nat.le_of_ble_eq_true rfl, Nat.le_of_ble_eq_true rfl⟩) rfl hl.1 rfl (Nat.le_of_ble_eq_true rfl) dL_law_422 ⟨hc, hs⟩) (fun H locs hS => ?_)
    refine lv_istore (lv' := [(5, .int 1), (0, .ref b), (1, .ref (ad 0)), (2, .ref (ad 85)), (3, .ref (ad 92)), (4, .int i)]) hx hb dL_law_425 hl (by decide) rfl (fun ls hl => ?_)
    refine lv_aload_n hx hb dL_law_427 rfl (lv_at hl 3 rfl) ?_
    refine r_ci hS (r_runV (As := []) (rest := []) X hS (c_X7_open l hE (D := D) (cI := cI) (cG := cG) (cL := cL) (w := WW cI cG cL adE ad hh o) (ad := ad) (WW_model hh o) f2) (cwV 0 X.1.2.2.2.2 hL_X7_open rfl rfl rfl (by decide +kernel) ⟨Nat.le_of_ble_eq_true rfl, Nat.le_of_ble_eq_true rfl⟩) (q0 := 85) (ci := 5) rfl ((WW_model hh o).1 μ).1 rfl hl.1 rfl (Nat.le_of_ble_eq_true rfl) dL_law_428 ⟨hc, hs⟩) (fun H locs hS => ?_)
    refine lv_istore (lv' := [(6, .int r), (5, .int 1), (0, .ref b), (1, .ref (ad 0)), (2, .ref (ad 85)), (3, .ref (ad 92)), (4, .int i)]) hx hb dL_law_431 hl (by decide) rfl (fun ls hl => ?_)
    refine lv_aload_n hx hb dL_law_433 rfl (lv_at hl 4 rfl) ?_
    refine r_ci hS (r_runV (As := []) (rest := []) X hS (c_X7_thrown l hE (D := D) (cI := cI) (cG := cG) (cL := cL) (w := WW cI cG cL adE ad hh o) (ad := ad) (WW_model hh o) f3) (cwV 0 X.1.2.2.2.2 hL_X7_thrown rfl rfl rfl (by decide +kernel) ⟨Nat.le_of_ble_eq_true rfl, Nat.le_of_ble_eq_true rfl⟩) (q0 := 85) (ci := 5) rfl ((WW_model hh o).1 μ').1 rfl hl.1 rfl (Nat.le_of_ble_eq_true rfl) dL_law_434 ⟨hc, hs⟩) (fun H locs hS => ?_)
    refine lv_iload hx hb dL_law_437 (lv_at hl 1 rfl) ?_
    refine lv_icmp_eq (tgt := 444) hx hb dL_law_439 (by decide) (fun _ => ?_) (fun cc => absurd rfl cc)
    refine lv_iload hx hb dL_law_444 (lv_at hl 1 rfl) ?_
    refine lv_if_ne (tgt := 461) hx hb dL_law_446 (by decide) (fun _ => ?_) (fun cc => absurd cc (by decide))
    refine lv_goto (tgt := 1405) hx hb dL_law_461 (by decide) ?_
    exact kend o H locs ls hS (lv_sub hl [2, 3, 4, 5, 6] rfl)
def St_6 (a1 a2 : Int32) (μ μ' : Mem) : Prop := (∃ (r : Int32) (μ1 : Mem), f_X6_close 0 a1 μ = some (r, μ1) ∧ f_X7_close 85 a1 μ1 = some (r, μ') ∧ f_X7_thrown 85 μ' = some 0) ∨ (f_X6_close_t 0 a1 μ = some 1 ∧ ∃ r : Int32, f_X7_close 85 a1 μ = some (r, μ') ∧ f_X7_thrown 85 μ' = some 1) ∨ (f_X6_close_t 0 a1 μ = some 3 ∧ ∃ r : Int32, f_X7_close 85 a1 μ = some (r, μ') ∧ f_X7_thrown 85 μ' = some 2)
set_option maxHeartbeats 4000000 in
set_option maxRecDepth 100000 in
theorem k_L_6 (l : Launch) {D : va_G} {cI cG cL : ClassId} {A : Nat → Prop} {tC tS : Nat} {adE adK adV ad : Nat → Nat} (hE : EnOK (ENV tC tS adE adK adV A) A) (hst : l.stackTraces = false) {p : Program} {e : Env} {s : State} {m : MethodId} {below : List Frame} {meth : Method} {c : Code} {b L : Nat} {xs : Nat → Int32} (X : Cx p s m #[.ref b] c cL_law 7 vsL_law RL D (tyl cI cG cL) A (ENV tC tS adE adK adV A)) (hX : va_X b L xs s s.heap) (hbl : b < s.heap.size) (hbA : ¬ A b) {H : Heap} {locs : List Loc} {ls : Array Slot} {hh o : Int64} {μ : Mem} {i : Int32} (hS : HS D A (WW cI cG cL adE ad hh o μ) s.heap H locs) (hl : lv_has ls 7 [(0, .ref b), (1, .ref (ad 0)), (2, .ref (ad 85)), (3, .ref (ad 92)), (4, .int i)]) (h1 : vp_in (i + 1) L) (h2 : vp_in (i + 2) L) {cells slots : Nat} (hc : cells + 1 ≤ 601024) (hs : slots + 6 ≤ 7293034) {Q : State → Prop} {μ' : Mem} {hh' : Int64} (st : St_6 (xs (i + 1).toNatClampNeg) (xs (i + 2).toNatClampNeg) μ μ') (eh : hh = hh') (kend : ∀ (o : Int64) (H : Heap) (locs : List Loc) (ls : Array Slot), HS D A (WW cI cG cL adE ad hh' o μ') s.heap H locs → lv_has ls 7 [(0, .ref b), (1, .ref (ad 0)), (2, .ref (ad 85)), (3, .ref (ad 92)), (4, .int i)] → W p l e room_1 s m #[.ref b] below meth c H locs (cells + 1) (slots + 6) Q (F0 m 1405 ls [])) : W p l e room_1 s m #[.ref b] below meth c H locs cells slots Q (F0 m 464 ls []) := by
  subst eh
  have hx := X.1.1
  have hb := X.1.2.1
  rcases st with ⟨r, μ1, f1, f2, f3⟩ | ⟨f1, r, f2, f3⟩ | ⟨f1, r, f2, f3⟩
  · refine lv_aload_n hx hb dL_law_464 rfl (lv_at hl 1 rfl) ?_
    refine lv_aload_n hx hb dL_law_465 rfl (lv_at hl 0 rfl) ?_
    refine lv_iload hx hb dL_law_466 (lv_at hl 4 rfl) ?_
    refine lv_iconst (v := 1) hx hb dL_law_468 (by decide) ?_
    refine lv_iadd hx hb dL_law_469 ?_
    refine va_sld hx hb hX hbl hbA hS.2.2 h1 dL_law_470 ?_
    refine lv_aload_n hx hb dL_law_471 rfl (lv_at hl 3 rfl) ?_
    refine r_cim hS (r_runSW (mc := 0) (ms := 0) (As := [.ref (ad 0), .int (xs (i + 1).toNatClampNeg), .ref (ad 92)]) (rest := []) X hS (o_L_close l hE (D := D) (cI := cI) (cG := cG) (cL := cL) (wo := WW cI cG cL adE ad hh) (ad := ad) (q := 0) (qo := 92) (o := o) (μ := μ) (fun o => WW_pg hh o) (WW_out hh) f1) (vx_cwSW (hh := [(0, 9, 12, 37), (0, 9, 15, 13)]) 3 X.1.2.2.2.2 hL_L_close rfl rfl rfl (by decide +kernel) ⟨Nat.le_of_ble_eq_true rfl, Nat.le_of_ble_eq_true rfl⟩) rfl hl.1 rfl (Nat.le_of_ble_eq_true rfl) dL_law_472 ⟨Nat.le_of_lt hc, Nat.le_trans (Nat.le_add_right slots 6) hs⟩) (fun H locs hS => ?_)
    refine lv_istore (lv' := [(5, .int 0), (0, .ref b), (1, .ref (ad 0)), (2, .ref (ad 85)), (3, .ref (ad 92)), (4, .int i)]) hx hb dL_law_475 hl (by decide) rfl (fun ls hl => ?_)
    refine lv_aload_n hx hb dL_law_477 rfl (lv_at hl 3 rfl) ?_
    refine lv_aload_n hx hb dL_law_478 rfl (lv_at hl 1 rfl) ?_
    refine lv_iload hx hb dL_law_479 (lv_at hl 5 rfl) ?_
    refine lv_iconst (v := 1) hx hb dL_law_481 (by decide) ?_
    refine lv_iadd hx hb dL_law_482 ?_
    refine va_sld hx hb hX hbl hbA hS.2.2 h1 dL_law_483 ?_
    refine r_ci hS (r_runV (As := [.int (xs (i + 1).toNatClampNeg)]) (rest := []) X hS (c_X7_close l hE (D := D) (cI := cI) (cG := cG) (cL := cL) (w := WW cI cG cL adE ad hh r.toInt64) (ad := ad) (WW_model hh r.toInt64) f2) (cwV 1 X.1.2.2.2.2 hL_X7_close rfl rfl rfl (by decide +kernel) ⟨Nat.le_of_ble_eq_true rfl, Nat.le_of_ble_eq_true rfl⟩) (q0 := 85) (ci := 5) rfl ((WW_model hh r.toInt64).1 μ1).1 rfl hl.1 rfl (Nat.le_of_ble_eq_true rfl) dL_law_484 ⟨Nat.le_of_lt hc, Nat.le_trans (Nat.le_add_right slots 6) hs⟩) (fun H locs hS => ?_)
    refine lv_istore (lv' := [(6, .int r), (5, .int 0), (0, .ref b), (1, .ref (ad 0)), (2, .ref (ad 85)), (3, .ref (ad 92)), (4, .int i)]) hx hb dL_law_487 hl (by decide) rfl (fun ls hl => ?_)
    refine lv_aload_n hx hb dL_law_489 rfl (lv_at hl 4 rfl) ?_
    refine r_ci hS (r_runV (As := []) (rest := []) X hS (c_X7_thrown l hE (D := D) (cI := cI) (cG := cG) (cL := cL) (w := WW cI cG cL adE ad hh r.toInt64) (ad := ad) (WW_model hh r.toInt64) f3) (cwV 0 X.1.2.2.2.2 hL_X7_thrown rfl rfl rfl (by decide +kernel) ⟨Nat.le_of_ble_eq_true rfl, Nat.le_of_ble_eq_true rfl⟩) (q0 := 85) (ci := 5) rfl ((WW_model hh r.toInt64).1 μ').1 rfl hl.1 rfl (Nat.le_of_ble_eq_true rfl) dL_law_490 ⟨Nat.le_of_lt hc, Nat.le_trans (Nat.le_add_right slots 6) hs⟩) (fun H locs hS => ?_)
    refine lv_iload hx hb dL_law_493 (lv_at hl 1 rfl) ?_
    refine lv_icmp_eq (tgt := 500) hx hb dL_law_495 (by decide) (fun _ => ?_) (fun cc => absurd rfl cc)
    refine lv_iload hx hb dL_law_500 (lv_at hl 1 rfl) ?_
    refine lv_if_ne (tgt := 517) hx hb dL_law_502 (by decide) (fun cc => absurd rfl cc) (fun _ => ?_)
    refine lv_aload_n hx hb dL_law_505 rfl (lv_at hl 5 rfl) ?_
    refine lv_iconst (v := 0) hx hb dL_law_506 (by decide) ?_
    refine r_lald X hS (WW_out hh) dL_law_507 ?_
    refine lv_iload hx hb dL_law_508 (lv_at hl 0 rfl) ?_
    refine lv_i2l (v := r.toInt64) hx hb dL_law_510 rfl ?_
    refine W.lcmp hx hb dL_law_511 ?_
    refine lv_if_eq (tgt := 517) hx hb dL_law_512 (by decide) (fun _ => ?_) (fun cc => absurd (lg_self _) cc)
    refine lv_goto (tgt := 1405) hx hb dL_law_517 (by decide) ?_
    refine W.widen (k := cells + 1) (n := slots + 6) (Nat.le_succ _) (Nat.le_add_right _ _) ?_
    exact kend r.toInt64 H locs ls hS (lv_sub hl [2, 3, 4, 5, 6] rfl)
  · refine lv_aload_n hx hb dL_law_464 rfl (lv_at hl 1 rfl) ?_
    refine lv_aload_n hx hb dL_law_465 rfl (lv_at hl 0 rfl) ?_
    refine lv_iload hx hb dL_law_466 (lv_at hl 4 rfl) ?_
    refine lv_iconst (v := 1) hx hb dL_law_468 (by decide) ?_
    refine lv_iadd hx hb dL_law_469 ?_
    refine va_sld hx hb hX hbl hbA hS.2.2 h1 dL_law_470 ?_
    refine lv_aload_n hx hb dL_law_471 rfl (lv_at hl 3 rfl) ?_
    refine r_cim hS (r_runSW (mc := 1) (ms := 6) (As := [.ref (ad 0), .int (xs (i + 1).toNatClampNeg), .ref (ad 92)]) (rest := []) X hS (x_L_close_1 l hE (D := D) (cI := cI) (cG := cG) (cL := cL) (wo := WW cI cG cL adE ad hh) (ad := ad) (q := 0) (qo := 92) (o := o) (μ := μ) (fun o => WW_pg hh o) (WW_out hh) hst f1) (vx_cwSW (hh := [(0, 9, 12, 37), (0, 9, 15, 13)]) 3 X.1.2.2.2.2 hL_L_close rfl rfl rfl (by decide +kernel) ⟨Nat.le_of_ble_eq_true rfl, Nat.le_of_ble_eq_true rfl⟩) rfl hl.1 rfl (Nat.le_of_ble_eq_true rfl) dL_law_472 ⟨hc, hs⟩) (fun H locs hS => ?_)
    refine lv_istore (lv' := [(5, .int 1), (0, .ref b), (1, .ref (ad 0)), (2, .ref (ad 85)), (3, .ref (ad 92)), (4, .int i)]) hx hb dL_law_475 hl (by decide) rfl (fun ls hl => ?_)
    refine lv_aload_n hx hb dL_law_477 rfl (lv_at hl 3 rfl) ?_
    refine lv_aload_n hx hb dL_law_478 rfl (lv_at hl 1 rfl) ?_
    refine lv_iload hx hb dL_law_479 (lv_at hl 5 rfl) ?_
    refine lv_iconst (v := 1) hx hb dL_law_481 (by decide) ?_
    refine lv_iadd hx hb dL_law_482 ?_
    refine va_sld hx hb hX hbl hbA hS.2.2 h1 dL_law_483 ?_
    refine r_ci hS (r_runV (As := [.int (xs (i + 1).toNatClampNeg)]) (rest := []) X hS (c_X7_close l hE (D := D) (cI := cI) (cG := cG) (cL := cL) (w := WW cI cG cL adE ad hh o) (ad := ad) (WW_model hh o) f2) (cwV 1 X.1.2.2.2.2 hL_X7_close rfl rfl rfl (by decide +kernel) ⟨Nat.le_of_ble_eq_true rfl, Nat.le_of_ble_eq_true rfl⟩) (q0 := 85) (ci := 5) rfl ((WW_model hh o).1 μ).1 rfl hl.1 rfl (Nat.le_of_ble_eq_true rfl) dL_law_484 ⟨hc, hs⟩) (fun H locs hS => ?_)
    refine lv_istore (lv' := [(6, .int r), (5, .int 1), (0, .ref b), (1, .ref (ad 0)), (2, .ref (ad 85)), (3, .ref (ad 92)), (4, .int i)]) hx hb dL_law_487 hl (by decide) rfl (fun ls hl => ?_)
    refine lv_aload_n hx hb dL_law_489 rfl (lv_at hl 4 rfl) ?_
    refine r_ci hS (r_runV (As := []) (rest := []) X hS (c_X7_thrown l hE (D := D) (cI := cI) (cG := cG) (cL := cL) (w := WW cI cG cL adE ad hh o) (ad := ad) (WW_model hh o) f3) (cwV 0 X.1.2.2.2.2 hL_X7_thrown rfl rfl rfl (by decide +kernel) ⟨Nat.le_of_ble_eq_true rfl, Nat.le_of_ble_eq_true rfl⟩) (q0 := 85) (ci := 5) rfl ((WW_model hh o).1 μ').1 rfl hl.1 rfl (Nat.le_of_ble_eq_true rfl) dL_law_490 ⟨hc, hs⟩) (fun H locs hS => ?_)
    refine lv_iload hx hb dL_law_493 (lv_at hl 1 rfl) ?_
    refine lv_icmp_eq (tgt := 500) hx hb dL_law_495 (by decide) (fun _ => ?_) (fun cc => absurd rfl cc)
    refine lv_iload hx hb dL_law_500 (lv_at hl 1 rfl) ?_
    refine lv_if_ne (tgt := 517) hx hb dL_law_502 (by decide) (fun _ => ?_) (fun cc => absurd cc (by decide))
    refine lv_goto (tgt := 1405) hx hb dL_law_517 (by decide) ?_
    exact kend o H locs ls hS (lv_sub hl [2, 3, 4, 5, 6] rfl)
  · refine lv_aload_n hx hb dL_law_464 rfl (lv_at hl 1 rfl) ?_
    refine lv_aload_n hx hb dL_law_465 rfl (lv_at hl 0 rfl) ?_
    refine lv_iload hx hb dL_law_466 (lv_at hl 4 rfl) ?_
    refine lv_iconst (v := 1) hx hb dL_law_468 (by decide) ?_
    refine lv_iadd hx hb dL_law_469 ?_
    refine va_sld hx hb hX hbl hbA hS.2.2 h1 dL_law_470 ?_
    refine lv_aload_n hx hb dL_law_471 rfl (lv_at hl 3 rfl) ?_
    refine r_cim hS (r_runSW (mc := 1) (ms := 6) (As := [.ref (ad 0), .int (xs (i + 1).toNatClampNeg), .ref (ad 92)]) (rest := []) X hS (x_L_close_3 l hE (D := D) (cI := cI) (cG := cG) (cL := cL) (wo := WW cI cG cL adE ad hh) (ad := ad) (q := 0) (qo := 92) (o := o) (μ := μ) (fun o => WW_pg hh o) (WW_out hh) hst f1) (vx_cwSW (hh := [(0, 9, 12, 37), (0, 9, 15, 13)]) 3 X.1.2.2.2.2 hL_L_close rfl rfl rfl (by decide +kernel) ⟨Nat.le_of_ble_eq_true rfl, Nat.le_of_ble_eq_true rfl⟩) rfl hl.1 rfl (Nat.le_of_ble_eq_true rfl) dL_law_472 ⟨hc, hs⟩) (fun H locs hS => ?_)
    refine lv_istore (lv' := [(5, .int 2), (0, .ref b), (1, .ref (ad 0)), (2, .ref (ad 85)), (3, .ref (ad 92)), (4, .int i)]) hx hb dL_law_475 hl (by decide) rfl (fun ls hl => ?_)
    refine lv_aload_n hx hb dL_law_477 rfl (lv_at hl 3 rfl) ?_
    refine lv_aload_n hx hb dL_law_478 rfl (lv_at hl 1 rfl) ?_
    refine lv_iload hx hb dL_law_479 (lv_at hl 5 rfl) ?_
    refine lv_iconst (v := 1) hx hb dL_law_481 (by decide) ?_
    refine lv_iadd hx hb dL_law_482 ?_
    refine va_sld hx hb hX hbl hbA hS.2.2 h1 dL_law_483 ?_
    refine r_ci hS (r_runV (As := [.int (xs (i + 1).toNatClampNeg)]) (rest := []) X hS (c_X7_close l hE (D := D) (cI := cI) (cG := cG) (cL := cL) (w := WW cI cG cL adE ad hh o) (ad := ad) (WW_model hh o) f2) (cwV 1 X.1.2.2.2.2 hL_X7_close rfl rfl rfl (by decide +kernel) ⟨Nat.le_of_ble_eq_true rfl, Nat.le_of_ble_eq_true rfl⟩) (q0 := 85) (ci := 5) rfl ((WW_model hh o).1 μ).1 rfl hl.1 rfl (Nat.le_of_ble_eq_true rfl) dL_law_484 ⟨hc, hs⟩) (fun H locs hS => ?_)
    refine lv_istore (lv' := [(6, .int r), (5, .int 2), (0, .ref b), (1, .ref (ad 0)), (2, .ref (ad 85)), (3, .ref (ad 92)), (4, .int i)]) hx hb dL_law_487 hl (by decide) rfl (fun ls hl => ?_)
    refine lv_aload_n hx hb dL_law_489 rfl (lv_at hl 4 rfl) ?_
    refine r_ci hS (r_runV (As := []) (rest := []) X hS (c_X7_thrown l hE (D := D) (cI := cI) (cG := cG) (cL := cL) (w := WW cI cG cL adE ad hh o) (ad := ad) (WW_model hh o) f3) (cwV 0 X.1.2.2.2.2 hL_X7_thrown rfl rfl rfl (by decide +kernel) ⟨Nat.le_of_ble_eq_true rfl, Nat.le_of_ble_eq_true rfl⟩) (q0 := 85) (ci := 5) rfl ((WW_model hh o).1 μ').1 rfl hl.1 rfl (Nat.le_of_ble_eq_true rfl) dL_law_490 ⟨hc, hs⟩) (fun H locs hS => ?_)
    refine lv_iload hx hb dL_law_493 (lv_at hl 1 rfl) ?_
    refine lv_icmp_eq (tgt := 500) hx hb dL_law_495 (by decide) (fun _ => ?_) (fun cc => absurd rfl cc)
    refine lv_iload hx hb dL_law_500 (lv_at hl 1 rfl) ?_
    refine lv_if_ne (tgt := 517) hx hb dL_law_502 (by decide) (fun _ => ?_) (fun cc => absurd cc (by decide))
    refine lv_goto (tgt := 1405) hx hb dL_law_517 (by decide) ?_
    exact kend o H locs ls hS (lv_sub hl [2, 3, 4, 5, 6] rfl)
def St_7 (a1 a2 : Int32) (μ μ' : Mem) : Prop := (∃ (r : Int32), f_X6_get 0 a1 μ = some r ∧ f_X7_get 85 a1 μ = some (r, μ') ∧ f_X7_thrown 85 μ' = some 0) ∨ (f_X6_get_t 0 a1 μ = some 2 ∧ ∃ r : Int32, f_X7_get 85 a1 μ = some (r, μ') ∧ f_X7_thrown 85 μ' = some 1)
set_option maxHeartbeats 4000000 in
set_option maxRecDepth 100000 in
theorem k_L_7 (l : Launch) {D : va_G} {cI cG cL : ClassId} {A : Nat → Prop} {tC tS : Nat} {adE adK adV ad : Nat → Nat} (hE : EnOK (ENV tC tS adE adK adV A) A) (hst : l.stackTraces = false) {p : Program} {e : Env} {s : State} {m : MethodId} {below : List Frame} {meth : Method} {c : Code} {b L : Nat} {xs : Nat → Int32} (X : Cx p s m #[.ref b] c cL_law 7 vsL_law RL D (tyl cI cG cL) A (ENV tC tS adE adK adV A)) (hX : va_X b L xs s s.heap) (hbl : b < s.heap.size) (hbA : ¬ A b) {H : Heap} {locs : List Loc} {ls : Array Slot} {hh o : Int64} {μ : Mem} {i : Int32} (hS : HS D A (WW cI cG cL adE ad hh o μ) s.heap H locs) (hl : lv_has ls 7 [(0, .ref b), (1, .ref (ad 0)), (2, .ref (ad 85)), (3, .ref (ad 92)), (4, .int i)]) (h1 : vp_in (i + 1) L) (h2 : vp_in (i + 2) L) {cells slots : Nat} (hc : cells + 1 ≤ 601024) (hs : slots + 6 ≤ 7293034) {Q : State → Prop} {μ' : Mem} {hh' : Int64} (st : St_7 (xs (i + 1).toNatClampNeg) (xs (i + 2).toNatClampNeg) μ μ') (eh : hh = hh') (kend : ∀ (o : Int64) (H : Heap) (locs : List Loc) (ls : Array Slot), HS D A (WW cI cG cL adE ad hh' o μ') s.heap H locs → lv_has ls 7 [(0, .ref b), (1, .ref (ad 0)), (2, .ref (ad 85)), (3, .ref (ad 92)), (4, .int i)] → W p l e room_1 s m #[.ref b] below meth c H locs (cells + 1) (slots + 6) Q (F0 m 1405 ls [])) : W p l e room_1 s m #[.ref b] below meth c H locs cells slots Q (F0 m 520 ls []) := by
  subst eh
  have hx := X.1.1
  have hb := X.1.2.1
  rcases st with ⟨r, f1, f2, f3⟩ | ⟨f1, r, f2, f3⟩
  · refine lv_aload_n hx hb dL_law_520 rfl (lv_at hl 1 rfl) ?_
    refine lv_aload_n hx hb dL_law_521 rfl (lv_at hl 0 rfl) ?_
    refine lv_iload hx hb dL_law_522 (lv_at hl 4 rfl) ?_
    refine lv_iconst (v := 1) hx hb dL_law_524 (by decide) ?_
    refine lv_iadd hx hb dL_law_525 ?_
    refine va_sld hx hb hX hbl hbA hS.2.2 h1 dL_law_526 ?_
    refine lv_aload_n hx hb dL_law_527 rfl (lv_at hl 3 rfl) ?_
    refine r_cim hS (r_runSW (mc := 0) (ms := 0) (As := [.ref (ad 0), .int (xs (i + 1).toNatClampNeg), .ref (ad 92)]) (rest := []) X hS (o_L_get l hE (D := D) (cI := cI) (cG := cG) (cL := cL) (wo := WW cI cG cL adE ad hh) (ad := ad) (q := 0) (qo := 92) (o := o) (μ := μ) (fun o => WW_pg hh o) (WW_out hh) f1) (vx_cwSW (hh := [(0, 9, 12, 19)]) 3 X.1.2.2.2.2 hL_L_get rfl rfl rfl (by decide +kernel) ⟨Nat.le_of_ble_eq_true rfl, Nat.le_of_ble_eq_true rfl⟩) rfl hl.1 rfl (Nat.le_of_ble_eq_true rfl) dL_law_528 ⟨Nat.le_of_lt hc, Nat.le_trans (Nat.le_add_right slots 6) hs⟩) (fun H locs hS => ?_)
    refine lv_istore (lv' := [(5, .int 0), (0, .ref b), (1, .ref (ad 0)), (2, .ref (ad 85)), (3, .ref (ad 92)), (4, .int i)]) hx hb dL_law_531 hl (by decide) rfl (fun ls hl => ?_)
    refine lv_aload_n hx hb dL_law_533 rfl (lv_at hl 3 rfl) ?_
    refine lv_aload_n hx hb dL_law_534 rfl (lv_at hl 1 rfl) ?_
    refine lv_iload hx hb dL_law_535 (lv_at hl 5 rfl) ?_
    refine lv_iconst (v := 1) hx hb dL_law_537 (by decide) ?_
    refine lv_iadd hx hb dL_law_538 ?_
    refine va_sld hx hb hX hbl hbA hS.2.2 h1 dL_law_539 ?_
    refine r_ci hS (r_runV (As := [.int (xs (i + 1).toNatClampNeg)]) (rest := []) X hS (c_X7_get l hE (D := D) (cI := cI) (cG := cG) (cL := cL) (w := WW cI cG cL adE ad hh r.toInt64) (ad := ad) (WW_model hh r.toInt64) f2) (cwV 1 X.1.2.2.2.2 hL_X7_get rfl rfl rfl (by decide +kernel) ⟨Nat.le_of_ble_eq_true rfl, Nat.le_of_ble_eq_true rfl⟩) (q0 := 85) (ci := 5) rfl ((WW_model hh r.toInt64).1 μ).1 rfl hl.1 rfl (Nat.le_of_ble_eq_true rfl) dL_law_540 ⟨Nat.le_of_lt hc, Nat.le_trans (Nat.le_add_right slots 6) hs⟩) (fun H locs hS => ?_)
    refine lv_istore (lv' := [(6, .int r), (5, .int 0), (0, .ref b), (1, .ref (ad 0)), (2, .ref (ad 85)), (3, .ref (ad 92)), (4, .int i)]) hx hb dL_law_543 hl (by decide) rfl (fun ls hl => ?_)
    refine lv_aload_n hx hb dL_law_545 rfl (lv_at hl 4 rfl) ?_
    refine r_ci hS (r_runV (As := []) (rest := []) X hS (c_X7_thrown l hE (D := D) (cI := cI) (cG := cG) (cL := cL) (w := WW cI cG cL adE ad hh r.toInt64) (ad := ad) (WW_model hh r.toInt64) f3) (cwV 0 X.1.2.2.2.2 hL_X7_thrown rfl rfl rfl (by decide +kernel) ⟨Nat.le_of_ble_eq_true rfl, Nat.le_of_ble_eq_true rfl⟩) (q0 := 85) (ci := 5) rfl ((WW_model hh r.toInt64).1 μ').1 rfl hl.1 rfl (Nat.le_of_ble_eq_true rfl) dL_law_546 ⟨Nat.le_of_lt hc, Nat.le_trans (Nat.le_add_right slots 6) hs⟩) (fun H locs hS => ?_)
    refine lv_iload hx hb dL_law_549 (lv_at hl 1 rfl) ?_
    refine lv_icmp_eq (tgt := 556) hx hb dL_law_551 (by decide) (fun _ => ?_) (fun cc => absurd rfl cc)
    refine lv_iload hx hb dL_law_556 (lv_at hl 1 rfl) ?_
    refine lv_if_ne (tgt := 573) hx hb dL_law_558 (by decide) (fun cc => absurd rfl cc) (fun _ => ?_)
    refine lv_aload_n hx hb dL_law_561 rfl (lv_at hl 5 rfl) ?_
    refine lv_iconst (v := 0) hx hb dL_law_562 (by decide) ?_
    refine r_lald X hS (WW_out hh) dL_law_563 ?_
    refine lv_iload hx hb dL_law_564 (lv_at hl 0 rfl) ?_
    refine lv_i2l (v := r.toInt64) hx hb dL_law_566 rfl ?_
    refine W.lcmp hx hb dL_law_567 ?_
    refine lv_if_eq (tgt := 573) hx hb dL_law_568 (by decide) (fun _ => ?_) (fun cc => absurd (lg_self _) cc)
    refine lv_goto (tgt := 1405) hx hb dL_law_573 (by decide) ?_
    refine W.widen (k := cells + 1) (n := slots + 6) (Nat.le_succ _) (Nat.le_add_right _ _) ?_
    exact kend r.toInt64 H locs ls hS (lv_sub hl [2, 3, 4, 5, 6] rfl)
  · refine lv_aload_n hx hb dL_law_520 rfl (lv_at hl 1 rfl) ?_
    refine lv_aload_n hx hb dL_law_521 rfl (lv_at hl 0 rfl) ?_
    refine lv_iload hx hb dL_law_522 (lv_at hl 4 rfl) ?_
    refine lv_iconst (v := 1) hx hb dL_law_524 (by decide) ?_
    refine lv_iadd hx hb dL_law_525 ?_
    refine va_sld hx hb hX hbl hbA hS.2.2 h1 dL_law_526 ?_
    refine lv_aload_n hx hb dL_law_527 rfl (lv_at hl 3 rfl) ?_
    refine r_cim hS (r_runSW (mc := 1) (ms := 6) (As := [.ref (ad 0), .int (xs (i + 1).toNatClampNeg), .ref (ad 92)]) (rest := []) X hS (x_L_get_2 l hE (D := D) (cI := cI) (cG := cG) (cL := cL) (wo := WW cI cG cL adE ad hh) (ad := ad) (q := 0) (qo := 92) (o := o) (μ := μ) (fun o => WW_pg hh o) (WW_out hh) hst f1) (vx_cwSW (hh := [(0, 9, 12, 19)]) 3 X.1.2.2.2.2 hL_L_get rfl rfl rfl (by decide +kernel) ⟨Nat.le_of_ble_eq_true rfl, Nat.le_of_ble_eq_true rfl⟩) rfl hl.1 rfl (Nat.le_of_ble_eq_true rfl) dL_law_528 ⟨hc, hs⟩) (fun H locs hS => ?_)
    refine lv_istore (lv' := [(5, .int 1), (0, .ref b), (1, .ref (ad 0)), (2, .ref (ad 85)), (3, .ref (ad 92)), (4, .int i)]) hx hb dL_law_531 hl (by decide) rfl (fun ls hl => ?_)
    refine lv_aload_n hx hb dL_law_533 rfl (lv_at hl 3 rfl) ?_
    refine lv_aload_n hx hb dL_law_534 rfl (lv_at hl 1 rfl) ?_
    refine lv_iload hx hb dL_law_535 (lv_at hl 5 rfl) ?_
    refine lv_iconst (v := 1) hx hb dL_law_537 (by decide) ?_
    refine lv_iadd hx hb dL_law_538 ?_
    refine va_sld hx hb hX hbl hbA hS.2.2 h1 dL_law_539 ?_
    refine r_ci hS (r_runV (As := [.int (xs (i + 1).toNatClampNeg)]) (rest := []) X hS (c_X7_get l hE (D := D) (cI := cI) (cG := cG) (cL := cL) (w := WW cI cG cL adE ad hh o) (ad := ad) (WW_model hh o) f2) (cwV 1 X.1.2.2.2.2 hL_X7_get rfl rfl rfl (by decide +kernel) ⟨Nat.le_of_ble_eq_true rfl, Nat.le_of_ble_eq_true rfl⟩) (q0 := 85) (ci := 5) rfl ((WW_model hh o).1 μ).1 rfl hl.1 rfl (Nat.le_of_ble_eq_true rfl) dL_law_540 ⟨hc, hs⟩) (fun H locs hS => ?_)
    refine lv_istore (lv' := [(6, .int r), (5, .int 1), (0, .ref b), (1, .ref (ad 0)), (2, .ref (ad 85)), (3, .ref (ad 92)), (4, .int i)]) hx hb dL_law_543 hl (by decide) rfl (fun ls hl => ?_)
    refine lv_aload_n hx hb dL_law_545 rfl (lv_at hl 4 rfl) ?_
    refine r_ci hS (r_runV (As := []) (rest := []) X hS (c_X7_thrown l hE (D := D) (cI := cI) (cG := cG) (cL := cL) (w := WW cI cG cL adE ad hh o) (ad := ad) (WW_model hh o) f3) (cwV 0 X.1.2.2.2.2 hL_X7_thrown rfl rfl rfl (by decide +kernel) ⟨Nat.le_of_ble_eq_true rfl, Nat.le_of_ble_eq_true rfl⟩) (q0 := 85) (ci := 5) rfl ((WW_model hh o).1 μ').1 rfl hl.1 rfl (Nat.le_of_ble_eq_true rfl) dL_law_546 ⟨hc, hs⟩) (fun H locs hS => ?_)
    refine lv_iload hx hb dL_law_549 (lv_at hl 1 rfl) ?_
    refine lv_icmp_eq (tgt := 556) hx hb dL_law_551 (by decide) (fun _ => ?_) (fun cc => absurd rfl cc)
    refine lv_iload hx hb dL_law_556 (lv_at hl 1 rfl) ?_
    refine lv_if_ne (tgt := 573) hx hb dL_law_558 (by decide) (fun _ => ?_) (fun cc => absurd cc (by decide))
    refine lv_goto (tgt := 1405) hx hb dL_law_573 (by decide) ?_
    exact kend o H locs ls hS (lv_sub hl [2, 3, 4, 5, 6] rfl)
def St_8 (a1 a2 : Int32) (μ μ' : Mem) : Prop := (∃ (r : Int32), f_X6_drafted 0 a1 μ = some r ∧ f_X7_drafted 85 a1 μ = some (r, μ') ∧ f_X7_thrown 85 μ' = some 0) ∨ (f_X6_drafted_t 0 a1 μ = some 2 ∧ ∃ r : Int32, f_X7_drafted 85 a1 μ = some (r, μ') ∧ f_X7_thrown 85 μ' = some 1) ∨ (f_X6_drafted_t 0 a1 μ = some 3 ∧ ∃ r : Int32, f_X7_drafted 85 a1 μ = some (r, μ') ∧ f_X7_thrown 85 μ' = some 2)
set_option maxHeartbeats 4000000 in
set_option maxRecDepth 100000 in
theorem k_L_8 (l : Launch) {D : va_G} {cI cG cL : ClassId} {A : Nat → Prop} {tC tS : Nat} {adE adK adV ad : Nat → Nat} (hE : EnOK (ENV tC tS adE adK adV A) A) (hst : l.stackTraces = false) {p : Program} {e : Env} {s : State} {m : MethodId} {below : List Frame} {meth : Method} {c : Code} {b L : Nat} {xs : Nat → Int32} (X : Cx p s m #[.ref b] c cL_law 7 vsL_law RL D (tyl cI cG cL) A (ENV tC tS adE adK adV A)) (hX : va_X b L xs s s.heap) (hbl : b < s.heap.size) (hbA : ¬ A b) {H : Heap} {locs : List Loc} {ls : Array Slot} {hh o : Int64} {μ : Mem} {i : Int32} (hS : HS D A (WW cI cG cL adE ad hh o μ) s.heap H locs) (hl : lv_has ls 7 [(0, .ref b), (1, .ref (ad 0)), (2, .ref (ad 85)), (3, .ref (ad 92)), (4, .int i)]) (h1 : vp_in (i + 1) L) (h2 : vp_in (i + 2) L) {cells slots : Nat} (hc : cells + 1 ≤ 601024) (hs : slots + 6 ≤ 7293034) {Q : State → Prop} {μ' : Mem} {hh' : Int64} (st : St_8 (xs (i + 1).toNatClampNeg) (xs (i + 2).toNatClampNeg) μ μ') (eh : hh = hh') (kend : ∀ (o : Int64) (H : Heap) (locs : List Loc) (ls : Array Slot), HS D A (WW cI cG cL adE ad hh' o μ') s.heap H locs → lv_has ls 7 [(0, .ref b), (1, .ref (ad 0)), (2, .ref (ad 85)), (3, .ref (ad 92)), (4, .int i)] → W p l e room_1 s m #[.ref b] below meth c H locs (cells + 1) (slots + 6) Q (F0 m 1405 ls [])) : W p l e room_1 s m #[.ref b] below meth c H locs cells slots Q (F0 m 576 ls []) := by
  subst eh
  have hx := X.1.1
  have hb := X.1.2.1
  rcases st with ⟨r, f1, f2, f3⟩ | ⟨f1, r, f2, f3⟩ | ⟨f1, r, f2, f3⟩
  · refine lv_aload_n hx hb dL_law_576 rfl (lv_at hl 1 rfl) ?_
    refine lv_aload_n hx hb dL_law_577 rfl (lv_at hl 0 rfl) ?_
    refine lv_iload hx hb dL_law_578 (lv_at hl 4 rfl) ?_
    refine lv_iconst (v := 1) hx hb dL_law_580 (by decide) ?_
    refine lv_iadd hx hb dL_law_581 ?_
    refine va_sld hx hb hX hbl hbA hS.2.2 h1 dL_law_582 ?_
    refine lv_aload_n hx hb dL_law_583 rfl (lv_at hl 3 rfl) ?_
    refine r_cim hS (r_runSW (mc := 0) (ms := 0) (As := [.ref (ad 0), .int (xs (i + 1).toNatClampNeg), .ref (ad 92)]) (rest := []) X hS (o_L_drafted l hE (D := D) (cI := cI) (cG := cG) (cL := cL) (wo := WW cI cG cL adE ad hh) (ad := ad) (q := 0) (qo := 92) (o := o) (μ := μ) (fun o => WW_pg hh o) (WW_out hh) f1) (vx_cwSW (hh := [(0, 9, 12, 19), (0, 9, 15, 13)]) 3 X.1.2.2.2.2 hL_L_drafted rfl rfl rfl (by decide +kernel) ⟨Nat.le_of_ble_eq_true rfl, Nat.le_of_ble_eq_true rfl⟩) rfl hl.1 rfl (Nat.le_of_ble_eq_true rfl) dL_law_584 ⟨Nat.le_of_lt hc, Nat.le_trans (Nat.le_add_right slots 6) hs⟩) (fun H locs hS => ?_)
    refine lv_istore (lv' := [(5, .int 0), (0, .ref b), (1, .ref (ad 0)), (2, .ref (ad 85)), (3, .ref (ad 92)), (4, .int i)]) hx hb dL_law_587 hl (by decide) rfl (fun ls hl => ?_)
    refine lv_aload_n hx hb dL_law_589 rfl (lv_at hl 3 rfl) ?_
    refine lv_aload_n hx hb dL_law_590 rfl (lv_at hl 1 rfl) ?_
    refine lv_iload hx hb dL_law_591 (lv_at hl 5 rfl) ?_
    refine lv_iconst (v := 1) hx hb dL_law_593 (by decide) ?_
    refine lv_iadd hx hb dL_law_594 ?_
    refine va_sld hx hb hX hbl hbA hS.2.2 h1 dL_law_595 ?_
    refine r_ci hS (r_runV (As := [.int (xs (i + 1).toNatClampNeg)]) (rest := []) X hS (c_X7_drafted l hE (D := D) (cI := cI) (cG := cG) (cL := cL) (w := WW cI cG cL adE ad hh r.toInt64) (ad := ad) (WW_model hh r.toInt64) f2) (cwV 1 X.1.2.2.2.2 hL_X7_drafted rfl rfl rfl (by decide +kernel) ⟨Nat.le_of_ble_eq_true rfl, Nat.le_of_ble_eq_true rfl⟩) (q0 := 85) (ci := 5) rfl ((WW_model hh r.toInt64).1 μ).1 rfl hl.1 rfl (Nat.le_of_ble_eq_true rfl) dL_law_596 ⟨Nat.le_of_lt hc, Nat.le_trans (Nat.le_add_right slots 6) hs⟩) (fun H locs hS => ?_)
    refine lv_istore (lv' := [(6, .int r), (5, .int 0), (0, .ref b), (1, .ref (ad 0)), (2, .ref (ad 85)), (3, .ref (ad 92)), (4, .int i)]) hx hb dL_law_599 hl (by decide) rfl (fun ls hl => ?_)
    refine lv_aload_n hx hb dL_law_601 rfl (lv_at hl 4 rfl) ?_
    refine r_ci hS (r_runV (As := []) (rest := []) X hS (c_X7_thrown l hE (D := D) (cI := cI) (cG := cG) (cL := cL) (w := WW cI cG cL adE ad hh r.toInt64) (ad := ad) (WW_model hh r.toInt64) f3) (cwV 0 X.1.2.2.2.2 hL_X7_thrown rfl rfl rfl (by decide +kernel) ⟨Nat.le_of_ble_eq_true rfl, Nat.le_of_ble_eq_true rfl⟩) (q0 := 85) (ci := 5) rfl ((WW_model hh r.toInt64).1 μ').1 rfl hl.1 rfl (Nat.le_of_ble_eq_true rfl) dL_law_602 ⟨Nat.le_of_lt hc, Nat.le_trans (Nat.le_add_right slots 6) hs⟩) (fun H locs hS => ?_)
    refine lv_iload hx hb dL_law_605 (lv_at hl 1 rfl) ?_
    refine lv_icmp_eq (tgt := 612) hx hb dL_law_607 (by decide) (fun _ => ?_) (fun cc => absurd rfl cc)
    refine lv_iload hx hb dL_law_612 (lv_at hl 1 rfl) ?_
    refine lv_if_ne (tgt := 629) hx hb dL_law_614 (by decide) (fun cc => absurd rfl cc) (fun _ => ?_)
    refine lv_aload_n hx hb dL_law_617 rfl (lv_at hl 5 rfl) ?_
    refine lv_iconst (v := 0) hx hb dL_law_618 (by decide) ?_
    refine r_lald X hS (WW_out hh) dL_law_619 ?_
    refine lv_iload hx hb dL_law_620 (lv_at hl 0 rfl) ?_
    refine lv_i2l (v := r.toInt64) hx hb dL_law_622 rfl ?_
    refine W.lcmp hx hb dL_law_623 ?_
    refine lv_if_eq (tgt := 629) hx hb dL_law_624 (by decide) (fun _ => ?_) (fun cc => absurd (lg_self _) cc)
    refine lv_goto (tgt := 1405) hx hb dL_law_629 (by decide) ?_
    refine W.widen (k := cells + 1) (n := slots + 6) (Nat.le_succ _) (Nat.le_add_right _ _) ?_
    exact kend r.toInt64 H locs ls hS (lv_sub hl [2, 3, 4, 5, 6] rfl)
  · refine lv_aload_n hx hb dL_law_576 rfl (lv_at hl 1 rfl) ?_
    refine lv_aload_n hx hb dL_law_577 rfl (lv_at hl 0 rfl) ?_
    refine lv_iload hx hb dL_law_578 (lv_at hl 4 rfl) ?_
    refine lv_iconst (v := 1) hx hb dL_law_580 (by decide) ?_
    refine lv_iadd hx hb dL_law_581 ?_
    refine va_sld hx hb hX hbl hbA hS.2.2 h1 dL_law_582 ?_
    refine lv_aload_n hx hb dL_law_583 rfl (lv_at hl 3 rfl) ?_
    refine r_cim hS (r_runSW (mc := 1) (ms := 6) (As := [.ref (ad 0), .int (xs (i + 1).toNatClampNeg), .ref (ad 92)]) (rest := []) X hS (x_L_drafted_2 l hE (D := D) (cI := cI) (cG := cG) (cL := cL) (wo := WW cI cG cL adE ad hh) (ad := ad) (q := 0) (qo := 92) (o := o) (μ := μ) (fun o => WW_pg hh o) (WW_out hh) hst f1) (vx_cwSW (hh := [(0, 9, 12, 19), (0, 9, 15, 13)]) 3 X.1.2.2.2.2 hL_L_drafted rfl rfl rfl (by decide +kernel) ⟨Nat.le_of_ble_eq_true rfl, Nat.le_of_ble_eq_true rfl⟩) rfl hl.1 rfl (Nat.le_of_ble_eq_true rfl) dL_law_584 ⟨hc, hs⟩) (fun H locs hS => ?_)
    refine lv_istore (lv' := [(5, .int 1), (0, .ref b), (1, .ref (ad 0)), (2, .ref (ad 85)), (3, .ref (ad 92)), (4, .int i)]) hx hb dL_law_587 hl (by decide) rfl (fun ls hl => ?_)
    refine lv_aload_n hx hb dL_law_589 rfl (lv_at hl 3 rfl) ?_
    refine lv_aload_n hx hb dL_law_590 rfl (lv_at hl 1 rfl) ?_
    refine lv_iload hx hb dL_law_591 (lv_at hl 5 rfl) ?_
    refine lv_iconst (v := 1) hx hb dL_law_593 (by decide) ?_
    refine lv_iadd hx hb dL_law_594 ?_
    refine va_sld hx hb hX hbl hbA hS.2.2 h1 dL_law_595 ?_
    refine r_ci hS (r_runV (As := [.int (xs (i + 1).toNatClampNeg)]) (rest := []) X hS (c_X7_drafted l hE (D := D) (cI := cI) (cG := cG) (cL := cL) (w := WW cI cG cL adE ad hh o) (ad := ad) (WW_model hh o) f2) (cwV 1 X.1.2.2.2.2 hL_X7_drafted rfl rfl rfl (by decide +kernel) ⟨Nat.le_of_ble_eq_true rfl, Nat.le_of_ble_eq_true rfl⟩) (q0 := 85) (ci := 5) rfl ((WW_model hh o).1 μ).1 rfl hl.1 rfl (Nat.le_of_ble_eq_true rfl) dL_law_596 ⟨hc, hs⟩) (fun H locs hS => ?_)
    refine lv_istore (lv' := [(6, .int r), (5, .int 1), (0, .ref b), (1, .ref (ad 0)), (2, .ref (ad 85)), (3, .ref (ad 92)), (4, .int i)]) hx hb dL_law_599 hl (by decide) rfl (fun ls hl => ?_)
    refine lv_aload_n hx hb dL_law_601 rfl (lv_at hl 4 rfl) ?_
    refine r_ci hS (r_runV (As := []) (rest := []) X hS (c_X7_thrown l hE (D := D) (cI := cI) (cG := cG) (cL := cL) (w := WW cI cG cL adE ad hh o) (ad := ad) (WW_model hh o) f3) (cwV 0 X.1.2.2.2.2 hL_X7_thrown rfl rfl rfl (by decide +kernel) ⟨Nat.le_of_ble_eq_true rfl, Nat.le_of_ble_eq_true rfl⟩) (q0 := 85) (ci := 5) rfl ((WW_model hh o).1 μ').1 rfl hl.1 rfl (Nat.le_of_ble_eq_true rfl) dL_law_602 ⟨hc, hs⟩) (fun H locs hS => ?_)
    refine lv_iload hx hb dL_law_605 (lv_at hl 1 rfl) ?_
    refine lv_icmp_eq (tgt := 612) hx hb dL_law_607 (by decide) (fun _ => ?_) (fun cc => absurd rfl cc)
    refine lv_iload hx hb dL_law_612 (lv_at hl 1 rfl) ?_
    refine lv_if_ne (tgt := 629) hx hb dL_law_614 (by decide) (fun _ => ?_) (fun cc => absurd cc (by decide))
    refine lv_goto (tgt := 1405) hx hb dL_law_629 (by decide) ?_
    exact kend o H locs ls hS (lv_sub hl [2, 3, 4, 5, 6] rfl)
  · refine lv_aload_n hx hb dL_law_576 rfl (lv_at hl 1 rfl) ?_
    refine lv_aload_n hx hb dL_law_577 rfl (lv_at hl 0 rfl) ?_
    refine lv_iload hx hb dL_law_578 (lv_at hl 4 rfl) ?_
    refine lv_iconst (v := 1) hx hb dL_law_580 (by decide) ?_
    refine lv_iadd hx hb dL_law_581 ?_
    refine va_sld hx hb hX hbl hbA hS.2.2 h1 dL_law_582 ?_
    refine lv_aload_n hx hb dL_law_583 rfl (lv_at hl 3 rfl) ?_
    refine r_cim hS (r_runSW (mc := 1) (ms := 6) (As := [.ref (ad 0), .int (xs (i + 1).toNatClampNeg), .ref (ad 92)]) (rest := []) X hS (x_L_drafted_3 l hE (D := D) (cI := cI) (cG := cG) (cL := cL) (wo := WW cI cG cL adE ad hh) (ad := ad) (q := 0) (qo := 92) (o := o) (μ := μ) (fun o => WW_pg hh o) (WW_out hh) hst f1) (vx_cwSW (hh := [(0, 9, 12, 19), (0, 9, 15, 13)]) 3 X.1.2.2.2.2 hL_L_drafted rfl rfl rfl (by decide +kernel) ⟨Nat.le_of_ble_eq_true rfl, Nat.le_of_ble_eq_true rfl⟩) rfl hl.1 rfl (Nat.le_of_ble_eq_true rfl) dL_law_584 ⟨hc, hs⟩) (fun H locs hS => ?_)
    refine lv_istore (lv' := [(5, .int 2), (0, .ref b), (1, .ref (ad 0)), (2, .ref (ad 85)), (3, .ref (ad 92)), (4, .int i)]) hx hb dL_law_587 hl (by decide) rfl (fun ls hl => ?_)
    refine lv_aload_n hx hb dL_law_589 rfl (lv_at hl 3 rfl) ?_
    refine lv_aload_n hx hb dL_law_590 rfl (lv_at hl 1 rfl) ?_
    refine lv_iload hx hb dL_law_591 (lv_at hl 5 rfl) ?_
    refine lv_iconst (v := 1) hx hb dL_law_593 (by decide) ?_
    refine lv_iadd hx hb dL_law_594 ?_
    refine va_sld hx hb hX hbl hbA hS.2.2 h1 dL_law_595 ?_
    refine r_ci hS (r_runV (As := [.int (xs (i + 1).toNatClampNeg)]) (rest := []) X hS (c_X7_drafted l hE (D := D) (cI := cI) (cG := cG) (cL := cL) (w := WW cI cG cL adE ad hh o) (ad := ad) (WW_model hh o) f2) (cwV 1 X.1.2.2.2.2 hL_X7_drafted rfl rfl rfl (by decide +kernel) ⟨Nat.le_of_ble_eq_true rfl, Nat.le_of_ble_eq_true rfl⟩) (q0 := 85) (ci := 5) rfl ((WW_model hh o).1 μ).1 rfl hl.1 rfl (Nat.le_of_ble_eq_true rfl) dL_law_596 ⟨hc, hs⟩) (fun H locs hS => ?_)
    refine lv_istore (lv' := [(6, .int r), (5, .int 2), (0, .ref b), (1, .ref (ad 0)), (2, .ref (ad 85)), (3, .ref (ad 92)), (4, .int i)]) hx hb dL_law_599 hl (by decide) rfl (fun ls hl => ?_)
    refine lv_aload_n hx hb dL_law_601 rfl (lv_at hl 4 rfl) ?_
    refine r_ci hS (r_runV (As := []) (rest := []) X hS (c_X7_thrown l hE (D := D) (cI := cI) (cG := cG) (cL := cL) (w := WW cI cG cL adE ad hh o) (ad := ad) (WW_model hh o) f3) (cwV 0 X.1.2.2.2.2 hL_X7_thrown rfl rfl rfl (by decide +kernel) ⟨Nat.le_of_ble_eq_true rfl, Nat.le_of_ble_eq_true rfl⟩) (q0 := 85) (ci := 5) rfl ((WW_model hh o).1 μ').1 rfl hl.1 rfl (Nat.le_of_ble_eq_true rfl) dL_law_602 ⟨hc, hs⟩) (fun H locs hS => ?_)
    refine lv_iload hx hb dL_law_605 (lv_at hl 1 rfl) ?_
    refine lv_icmp_eq (tgt := 612) hx hb dL_law_607 (by decide) (fun _ => ?_) (fun cc => absurd rfl cc)
    refine lv_iload hx hb dL_law_612 (lv_at hl 1 rfl) ?_
    refine lv_if_ne (tgt := 629) hx hb dL_law_614 (by decide) (fun _ => ?_) (fun cc => absurd cc (by decide))
    refine lv_goto (tgt := 1405) hx hb dL_law_629 (by decide) ?_
    exact kend o H locs ls hS (lv_sub hl [2, 3, 4, 5, 6] rfl)
def St_9 (a1 a2 : Int32) (μ μ' : Mem) : Prop := (∃ (r : Int32), f_X6_read 0 a1 a2 μ = some r ∧ f_X7_read 85 a1 a2 μ = some (r, μ') ∧ f_X7_thrown 85 μ' = some 0) ∨ (f_X6_read_t 0 a1 a2 μ = some 1 ∧ ∃ r : Int32, f_X7_read 85 a1 a2 μ = some (r, μ') ∧ f_X7_thrown 85 μ' = some 1) ∨ (f_X6_read_t 0 a1 a2 μ = some 2 ∧ ∃ r : Int32, f_X7_read 85 a1 a2 μ = some (r, μ') ∧ f_X7_thrown 85 μ' = some 2) ∨ (f_X6_read_t 0 a1 a2 μ = some 3 ∧ ∃ r : Int32, f_X7_read 85 a1 a2 μ = some (r, μ') ∧ f_X7_thrown 85 μ' = some 3)
set_option maxHeartbeats 4000000 in
set_option maxRecDepth 100000 in
theorem k_L_9 (l : Launch) {D : va_G} {cI cG cL : ClassId} {A : Nat → Prop} {tC tS : Nat} {adE adK adV ad : Nat → Nat} (hE : EnOK (ENV tC tS adE adK adV A) A) (hst : l.stackTraces = false) {p : Program} {e : Env} {s : State} {m : MethodId} {below : List Frame} {meth : Method} {c : Code} {b L : Nat} {xs : Nat → Int32} (X : Cx p s m #[.ref b] c cL_law 7 vsL_law RL D (tyl cI cG cL) A (ENV tC tS adE adK adV A)) (hX : va_X b L xs s s.heap) (hbl : b < s.heap.size) (hbA : ¬ A b) {H : Heap} {locs : List Loc} {ls : Array Slot} {hh o : Int64} {μ : Mem} {i : Int32} (hS : HS D A (WW cI cG cL adE ad hh o μ) s.heap H locs) (hl : lv_has ls 7 [(0, .ref b), (1, .ref (ad 0)), (2, .ref (ad 85)), (3, .ref (ad 92)), (4, .int i)]) (h1 : vp_in (i + 1) L) (h2 : vp_in (i + 2) L) {cells slots : Nat} (hc : cells + 1 ≤ 601024) (hs : slots + 6 ≤ 7293034) {Q : State → Prop} {μ' : Mem} {hh' : Int64} (st : St_9 (xs (i + 1).toNatClampNeg) (xs (i + 2).toNatClampNeg) μ μ') (eh : hh = hh') (kend : ∀ (o : Int64) (H : Heap) (locs : List Loc) (ls : Array Slot), HS D A (WW cI cG cL adE ad hh' o μ') s.heap H locs → lv_has ls 7 [(0, .ref b), (1, .ref (ad 0)), (2, .ref (ad 85)), (3, .ref (ad 92)), (4, .int i)] → W p l e room_1 s m #[.ref b] below meth c H locs (cells + 1) (slots + 6) Q (F0 m 1405 ls [])) : W p l e room_1 s m #[.ref b] below meth c H locs cells slots Q (F0 m 632 ls []) := by
  subst eh
  have hx := X.1.1
  have hb := X.1.2.1
  rcases st with ⟨r, f1, f2, f3⟩ | ⟨f1, r, f2, f3⟩ | ⟨f1, r, f2, f3⟩ | ⟨f1, r, f2, f3⟩
  · refine lv_aload_n hx hb dL_law_632 rfl (lv_at hl 1 rfl) ?_
    refine lv_aload_n hx hb dL_law_633 rfl (lv_at hl 0 rfl) ?_
    refine lv_iload hx hb dL_law_634 (lv_at hl 4 rfl) ?_
    refine lv_iconst (v := 1) hx hb dL_law_636 (by decide) ?_
    refine lv_iadd hx hb dL_law_637 ?_
    refine va_sld hx hb hX hbl hbA hS.2.2 h1 dL_law_638 ?_
    refine lv_aload_n hx hb dL_law_639 rfl (lv_at hl 0 rfl) ?_
    refine lv_iload hx hb dL_law_640 (lv_at hl 4 rfl) ?_
    refine lv_iconst (v := 2) hx hb dL_law_642 (by decide) ?_
    refine lv_iadd hx hb dL_law_643 ?_
    refine va_sld hx hb hX hbl hbA hS.2.2 h2 dL_law_644 ?_
    refine lv_aload_n hx hb dL_law_645 rfl (lv_at hl 3 rfl) ?_
    refine r_cim hS (r_runSW (mc := 0) (ms := 0) (As := [.ref (ad 0), .int (xs (i + 1).toNatClampNeg), .int (xs (i + 2).toNatClampNeg), .ref (ad 92)]) (rest := []) X hS (o_L_read l hE (D := D) (cI := cI) (cG := cG) (cL := cL) (wo := WW cI cG cL adE ad hh) (ad := ad) (q := 0) (qo := 92) (o := o) (μ := μ) (fun o => WW_pg hh o) (WW_out hh) f1) (vx_cwSW (hh := [(0, 10, 13, 37), (0, 10, 17, 19), (0, 10, 21, 13)]) 4 X.1.2.2.2.2 hL_L_read rfl rfl rfl (by decide +kernel) ⟨Nat.le_of_ble_eq_true rfl, Nat.le_of_ble_eq_true rfl⟩) rfl hl.1 rfl (Nat.le_of_ble_eq_true rfl) dL_law_646 ⟨Nat.le_of_lt hc, Nat.le_trans (Nat.le_add_right slots 6) hs⟩) (fun H locs hS => ?_)
    refine lv_istore (lv' := [(5, .int 0), (0, .ref b), (1, .ref (ad 0)), (2, .ref (ad 85)), (3, .ref (ad 92)), (4, .int i)]) hx hb dL_law_649 hl (by decide) rfl (fun ls hl => ?_)
    refine lv_aload_n hx hb dL_law_651 rfl (lv_at hl 3 rfl) ?_
    refine lv_aload_n hx hb dL_law_652 rfl (lv_at hl 1 rfl) ?_
    refine lv_iload hx hb dL_law_653 (lv_at hl 5 rfl) ?_
    refine lv_iconst (v := 1) hx hb dL_law_655 (by decide) ?_
    refine lv_iadd hx hb dL_law_656 ?_
    refine va_sld hx hb hX hbl hbA hS.2.2 h1 dL_law_657 ?_
    refine lv_aload_n hx hb dL_law_658 rfl (lv_at hl 1 rfl) ?_
    refine lv_iload hx hb dL_law_659 (lv_at hl 5 rfl) ?_
    refine lv_iconst (v := 2) hx hb dL_law_661 (by decide) ?_
    refine lv_iadd hx hb dL_law_662 ?_
    refine va_sld hx hb hX hbl hbA hS.2.2 h2 dL_law_663 ?_
    refine r_ci hS (r_runV (As := [.int (xs (i + 1).toNatClampNeg), .int (xs (i + 2).toNatClampNeg)]) (rest := []) X hS (c_X7_read l hE (D := D) (cI := cI) (cG := cG) (cL := cL) (w := WW cI cG cL adE ad hh r.toInt64) (ad := ad) (WW_model hh r.toInt64) f2) (cwV 2 X.1.2.2.2.2 hL_X7_read rfl rfl rfl (by decide +kernel) ⟨Nat.le_of_ble_eq_true rfl, Nat.le_of_ble_eq_true rfl⟩) (q0 := 85) (ci := 5) rfl ((WW_model hh r.toInt64).1 μ).1 rfl hl.1 rfl (Nat.le_of_ble_eq_true rfl) dL_law_664 ⟨Nat.le_of_lt hc, Nat.le_trans (Nat.le_add_right slots 6) hs⟩) (fun H locs hS => ?_)
    refine lv_istore (lv' := [(6, .int r), (5, .int 0), (0, .ref b), (1, .ref (ad 0)), (2, .ref (ad 85)), (3, .ref (ad 92)), (4, .int i)]) hx hb dL_law_667 hl (by decide) rfl (fun ls hl => ?_)
    refine lv_aload_n hx hb dL_law_669 rfl (lv_at hl 4 rfl) ?_
    refine r_ci hS (r_runV (As := []) (rest := []) X hS (c_X7_thrown l hE (D := D) (cI := cI) (cG := cG) (cL := cL) (w := WW cI cG cL adE ad hh r.toInt64) (ad := ad) (WW_model hh r.toInt64) f3) (cwV 0 X.1.2.2.2.2 hL_X7_thrown rfl rfl rfl (by decide +kernel) ⟨Nat.le_of_ble_eq_true rfl, Nat.le_of_ble_eq_true rfl⟩) (q0 := 85) (ci := 5) rfl ((WW_model hh r.toInt64).1 μ').1 rfl hl.1 rfl (Nat.le_of_ble_eq_true rfl) dL_law_670 ⟨Nat.le_of_lt hc, Nat.le_trans (Nat.le_add_right slots 6) hs⟩) (fun H locs hS => ?_)
    refine lv_iload hx hb dL_law_673 (lv_at hl 1 rfl) ?_
    refine lv_icmp_eq (tgt := 680) hx hb dL_law_675 (by decide) (fun _ => ?_) (fun cc => absurd rfl cc)
    refine lv_iload hx hb dL_law_680 (lv_at hl 1 rfl) ?_
    refine lv_if_ne (tgt := 697) hx hb dL_law_682 (by decide) (fun cc => absurd rfl cc) (fun _ => ?_)
    refine lv_aload_n hx hb dL_law_685 rfl (lv_at hl 5 rfl) ?_
    refine lv_iconst (v := 0) hx hb dL_law_686 (by decide) ?_
    refine r_lald X hS (WW_out hh) dL_law_687 ?_
    refine lv_iload hx hb dL_law_688 (lv_at hl 0 rfl) ?_
    refine lv_i2l (v := r.toInt64) hx hb dL_law_690 rfl ?_
    refine W.lcmp hx hb dL_law_691 ?_
    refine lv_if_eq (tgt := 697) hx hb dL_law_692 (by decide) (fun _ => ?_) (fun cc => absurd (lg_self _) cc)
    refine lv_goto (tgt := 1405) hx hb dL_law_697 (by decide) ?_
    refine W.widen (k := cells + 1) (n := slots + 6) (Nat.le_succ _) (Nat.le_add_right _ _) ?_
    exact kend r.toInt64 H locs ls hS (lv_sub hl [2, 3, 4, 5, 6] rfl)
  · refine lv_aload_n hx hb dL_law_632 rfl (lv_at hl 1 rfl) ?_
    refine lv_aload_n hx hb dL_law_633 rfl (lv_at hl 0 rfl) ?_
    refine lv_iload hx hb dL_law_634 (lv_at hl 4 rfl) ?_
    refine lv_iconst (v := 1) hx hb dL_law_636 (by decide) ?_
    refine lv_iadd hx hb dL_law_637 ?_
    refine va_sld hx hb hX hbl hbA hS.2.2 h1 dL_law_638 ?_
    refine lv_aload_n hx hb dL_law_639 rfl (lv_at hl 0 rfl) ?_
    refine lv_iload hx hb dL_law_640 (lv_at hl 4 rfl) ?_
    refine lv_iconst (v := 2) hx hb dL_law_642 (by decide) ?_
    refine lv_iadd hx hb dL_law_643 ?_
    refine va_sld hx hb hX hbl hbA hS.2.2 h2 dL_law_644 ?_
    refine lv_aload_n hx hb dL_law_645 rfl (lv_at hl 3 rfl) ?_
    refine r_cim hS (r_runSW (mc := 1) (ms := 6) (As := [.ref (ad 0), .int (xs (i + 1).toNatClampNeg), .int (xs (i + 2).toNatClampNeg), .ref (ad 92)]) (rest := []) X hS (x_L_read_1 l hE (D := D) (cI := cI) (cG := cG) (cL := cL) (wo := WW cI cG cL adE ad hh) (ad := ad) (q := 0) (qo := 92) (o := o) (μ := μ) (fun o => WW_pg hh o) (WW_out hh) hst f1) (vx_cwSW (hh := [(0, 10, 13, 37), (0, 10, 17, 19), (0, 10, 21, 13)]) 4 X.1.2.2.2.2 hL_L_read rfl rfl rfl (by decide +kernel) ⟨Nat.le_of_ble_eq_true rfl, Nat.le_of_ble_eq_true rfl⟩) rfl hl.1 rfl (Nat.le_of_ble_eq_true rfl) dL_law_646 ⟨hc, hs⟩) (fun H locs hS => ?_)
    refine lv_istore (lv' := [(5, .int 1), (0, .ref b), (1, .ref (ad 0)), (2, .ref (ad 85)), (3, .ref (ad 92)), (4, .int i)]) hx hb dL_law_649 hl (by decide) rfl (fun ls hl => ?_)
    refine lv_aload_n hx hb dL_law_651 rfl (lv_at hl 3 rfl) ?_
    refine lv_aload_n hx hb dL_law_652 rfl (lv_at hl 1 rfl) ?_
    refine lv_iload hx hb dL_law_653 (lv_at hl 5 rfl) ?_
    refine lv_iconst (v := 1) hx hb dL_law_655 (by decide) ?_
    refine lv_iadd hx hb dL_law_656 ?_
    refine va_sld hx hb hX hbl hbA hS.2.2 h1 dL_law_657 ?_
    refine lv_aload_n hx hb dL_law_658 rfl (lv_at hl 1 rfl) ?_
    refine lv_iload hx hb dL_law_659 (lv_at hl 5 rfl) ?_
    refine lv_iconst (v := 2) hx hb dL_law_661 (by decide) ?_
    refine lv_iadd hx hb dL_law_662 ?_
    refine va_sld hx hb hX hbl hbA hS.2.2 h2 dL_law_663 ?_
    refine r_ci hS (r_runV (As := [.int (xs (i + 1).toNatClampNeg), .int (xs (i + 2).toNatClampNeg)]) (rest := []) X hS (c_X7_read l hE (D := D) (cI := cI) (cG := cG) (cL := cL) (w := WW cI cG cL adE ad hh o) (ad := ad) (WW_model hh o) f2) (cwV 2 X.1.2.2.2.2 hL_X7_read rfl rfl rfl (by decide +kernel) ⟨Nat.le_of_ble_eq_true rfl, Nat.le_of_ble_eq_true rfl⟩) (q0 := 85) (ci := 5) rfl ((WW_model hh o).1 μ).1 rfl hl.1 rfl (Nat.le_of_ble_eq_true rfl) dL_law_664 ⟨hc, hs⟩) (fun H locs hS => ?_)
    refine lv_istore (lv' := [(6, .int r), (5, .int 1), (0, .ref b), (1, .ref (ad 0)), (2, .ref (ad 85)), (3, .ref (ad 92)), (4, .int i)]) hx hb dL_law_667 hl (by decide) rfl (fun ls hl => ?_)
    refine lv_aload_n hx hb dL_law_669 rfl (lv_at hl 4 rfl) ?_
    refine r_ci hS (r_runV (As := []) (rest := []) X hS (c_X7_thrown l hE (D := D) (cI := cI) (cG := cG) (cL := cL) (w := WW cI cG cL adE ad hh o) (ad := ad) (WW_model hh o) f3) (cwV 0 X.1.2.2.2.2 hL_X7_thrown rfl rfl rfl (by decide +kernel) ⟨Nat.le_of_ble_eq_true rfl, Nat.le_of_ble_eq_true rfl⟩) (q0 := 85) (ci := 5) rfl ((WW_model hh o).1 μ').1 rfl hl.1 rfl (Nat.le_of_ble_eq_true rfl) dL_law_670 ⟨hc, hs⟩) (fun H locs hS => ?_)
    refine lv_iload hx hb dL_law_673 (lv_at hl 1 rfl) ?_
    refine lv_icmp_eq (tgt := 680) hx hb dL_law_675 (by decide) (fun _ => ?_) (fun cc => absurd rfl cc)
    refine lv_iload hx hb dL_law_680 (lv_at hl 1 rfl) ?_
    refine lv_if_ne (tgt := 697) hx hb dL_law_682 (by decide) (fun _ => ?_) (fun cc => absurd cc (by decide))
    refine lv_goto (tgt := 1405) hx hb dL_law_697 (by decide) ?_
    exact kend o H locs ls hS (lv_sub hl [2, 3, 4, 5, 6] rfl)
  · refine lv_aload_n hx hb dL_law_632 rfl (lv_at hl 1 rfl) ?_
    refine lv_aload_n hx hb dL_law_633 rfl (lv_at hl 0 rfl) ?_
    refine lv_iload hx hb dL_law_634 (lv_at hl 4 rfl) ?_
    refine lv_iconst (v := 1) hx hb dL_law_636 (by decide) ?_
    refine lv_iadd hx hb dL_law_637 ?_
    refine va_sld hx hb hX hbl hbA hS.2.2 h1 dL_law_638 ?_
    refine lv_aload_n hx hb dL_law_639 rfl (lv_at hl 0 rfl) ?_
    refine lv_iload hx hb dL_law_640 (lv_at hl 4 rfl) ?_
    refine lv_iconst (v := 2) hx hb dL_law_642 (by decide) ?_
    refine lv_iadd hx hb dL_law_643 ?_
    refine va_sld hx hb hX hbl hbA hS.2.2 h2 dL_law_644 ?_
    refine lv_aload_n hx hb dL_law_645 rfl (lv_at hl 3 rfl) ?_
    refine r_cim hS (r_runSW (mc := 1) (ms := 6) (As := [.ref (ad 0), .int (xs (i + 1).toNatClampNeg), .int (xs (i + 2).toNatClampNeg), .ref (ad 92)]) (rest := []) X hS (x_L_read_2 l hE (D := D) (cI := cI) (cG := cG) (cL := cL) (wo := WW cI cG cL adE ad hh) (ad := ad) (q := 0) (qo := 92) (o := o) (μ := μ) (fun o => WW_pg hh o) (WW_out hh) hst f1) (vx_cwSW (hh := [(0, 10, 13, 37), (0, 10, 17, 19), (0, 10, 21, 13)]) 4 X.1.2.2.2.2 hL_L_read rfl rfl rfl (by decide +kernel) ⟨Nat.le_of_ble_eq_true rfl, Nat.le_of_ble_eq_true rfl⟩) rfl hl.1 rfl (Nat.le_of_ble_eq_true rfl) dL_law_646 ⟨hc, hs⟩) (fun H locs hS => ?_)
    refine lv_istore (lv' := [(5, .int 2), (0, .ref b), (1, .ref (ad 0)), (2, .ref (ad 85)), (3, .ref (ad 92)), (4, .int i)]) hx hb dL_law_649 hl (by decide) rfl (fun ls hl => ?_)
    refine lv_aload_n hx hb dL_law_651 rfl (lv_at hl 3 rfl) ?_
    refine lv_aload_n hx hb dL_law_652 rfl (lv_at hl 1 rfl) ?_
    refine lv_iload hx hb dL_law_653 (lv_at hl 5 rfl) ?_
    refine lv_iconst (v := 1) hx hb dL_law_655 (by decide) ?_
    refine lv_iadd hx hb dL_law_656 ?_
    refine va_sld hx hb hX hbl hbA hS.2.2 h1 dL_law_657 ?_
    refine lv_aload_n hx hb dL_law_658 rfl (lv_at hl 1 rfl) ?_
    refine lv_iload hx hb dL_law_659 (lv_at hl 5 rfl) ?_
    refine lv_iconst (v := 2) hx hb dL_law_661 (by decide) ?_
    refine lv_iadd hx hb dL_law_662 ?_
    refine va_sld hx hb hX hbl hbA hS.2.2 h2 dL_law_663 ?_
    refine r_ci hS (r_runV (As := [.int (xs (i + 1).toNatClampNeg), .int (xs (i + 2).toNatClampNeg)]) (rest := []) X hS (c_X7_read l hE (D := D) (cI := cI) (cG := cG) (cL := cL) (w := WW cI cG cL adE ad hh o) (ad := ad) (WW_model hh o) f2) (cwV 2 X.1.2.2.2.2 hL_X7_read rfl rfl rfl (by decide +kernel) ⟨Nat.le_of_ble_eq_true rfl, Nat.le_of_ble_eq_true rfl⟩) (q0 := 85) (ci := 5) rfl ((WW_model hh o).1 μ).1 rfl hl.1 rfl (Nat.le_of_ble_eq_true rfl) dL_law_664 ⟨hc, hs⟩) (fun H locs hS => ?_)
    refine lv_istore (lv' := [(6, .int r), (5, .int 2), (0, .ref b), (1, .ref (ad 0)), (2, .ref (ad 85)), (3, .ref (ad 92)), (4, .int i)]) hx hb dL_law_667 hl (by decide) rfl (fun ls hl => ?_)
    refine lv_aload_n hx hb dL_law_669 rfl (lv_at hl 4 rfl) ?_
    refine r_ci hS (r_runV (As := []) (rest := []) X hS (c_X7_thrown l hE (D := D) (cI := cI) (cG := cG) (cL := cL) (w := WW cI cG cL adE ad hh o) (ad := ad) (WW_model hh o) f3) (cwV 0 X.1.2.2.2.2 hL_X7_thrown rfl rfl rfl (by decide +kernel) ⟨Nat.le_of_ble_eq_true rfl, Nat.le_of_ble_eq_true rfl⟩) (q0 := 85) (ci := 5) rfl ((WW_model hh o).1 μ').1 rfl hl.1 rfl (Nat.le_of_ble_eq_true rfl) dL_law_670 ⟨hc, hs⟩) (fun H locs hS => ?_)
    refine lv_iload hx hb dL_law_673 (lv_at hl 1 rfl) ?_
    refine lv_icmp_eq (tgt := 680) hx hb dL_law_675 (by decide) (fun _ => ?_) (fun cc => absurd rfl cc)
    refine lv_iload hx hb dL_law_680 (lv_at hl 1 rfl) ?_
    refine lv_if_ne (tgt := 697) hx hb dL_law_682 (by decide) (fun _ => ?_) (fun cc => absurd cc (by decide))
    refine lv_goto (tgt := 1405) hx hb dL_law_697 (by decide) ?_
    exact kend o H locs ls hS (lv_sub hl [2, 3, 4, 5, 6] rfl)
  · refine lv_aload_n hx hb dL_law_632 rfl (lv_at hl 1 rfl) ?_
    refine lv_aload_n hx hb dL_law_633 rfl (lv_at hl 0 rfl) ?_
    refine lv_iload hx hb dL_law_634 (lv_at hl 4 rfl) ?_
    refine lv_iconst (v := 1) hx hb dL_law_636 (by decide) ?_
    refine lv_iadd hx hb dL_law_637 ?_
    refine va_sld hx hb hX hbl hbA hS.2.2 h1 dL_law_638 ?_
    refine lv_aload_n hx hb dL_law_639 rfl (lv_at hl 0 rfl) ?_
    refine lv_iload hx hb dL_law_640 (lv_at hl 4 rfl) ?_
    refine lv_iconst (v := 2) hx hb dL_law_642 (by decide) ?_
    refine lv_iadd hx hb dL_law_643 ?_
    refine va_sld hx hb hX hbl hbA hS.2.2 h2 dL_law_644 ?_
    refine lv_aload_n hx hb dL_law_645 rfl (lv_at hl 3 rfl) ?_
    refine r_cim hS (r_runSW (mc := 1) (ms := 6) (As := [.ref (ad 0), .int (xs (i + 1).toNatClampNeg), .int (xs (i + 2).toNatClampNeg), .ref (ad 92)]) (rest := []) X hS (x_L_read_3 l hE (D := D) (cI := cI) (cG := cG) (cL := cL) (wo := WW cI cG cL adE ad hh) (ad := ad) (q := 0) (qo := 92) (o := o) (μ := μ) (fun o => WW_pg hh o) (WW_out hh) hst f1) (vx_cwSW (hh := [(0, 10, 13, 37), (0, 10, 17, 19), (0, 10, 21, 13)]) 4 X.1.2.2.2.2 hL_L_read rfl rfl rfl (by decide +kernel) ⟨Nat.le_of_ble_eq_true rfl, Nat.le_of_ble_eq_true rfl⟩) rfl hl.1 rfl (Nat.le_of_ble_eq_true rfl) dL_law_646 ⟨hc, hs⟩) (fun H locs hS => ?_)
    refine lv_istore (lv' := [(5, .int 3), (0, .ref b), (1, .ref (ad 0)), (2, .ref (ad 85)), (3, .ref (ad 92)), (4, .int i)]) hx hb dL_law_649 hl (by decide) rfl (fun ls hl => ?_)
    refine lv_aload_n hx hb dL_law_651 rfl (lv_at hl 3 rfl) ?_
    refine lv_aload_n hx hb dL_law_652 rfl (lv_at hl 1 rfl) ?_
    refine lv_iload hx hb dL_law_653 (lv_at hl 5 rfl) ?_
    refine lv_iconst (v := 1) hx hb dL_law_655 (by decide) ?_
    refine lv_iadd hx hb dL_law_656 ?_
    refine va_sld hx hb hX hbl hbA hS.2.2 h1 dL_law_657 ?_
    refine lv_aload_n hx hb dL_law_658 rfl (lv_at hl 1 rfl) ?_
    refine lv_iload hx hb dL_law_659 (lv_at hl 5 rfl) ?_
    refine lv_iconst (v := 2) hx hb dL_law_661 (by decide) ?_
    refine lv_iadd hx hb dL_law_662 ?_
    refine va_sld hx hb hX hbl hbA hS.2.2 h2 dL_law_663 ?_
    refine r_ci hS (r_runV (As := [.int (xs (i + 1).toNatClampNeg), .int (xs (i + 2).toNatClampNeg)]) (rest := []) X hS (c_X7_read l hE (D := D) (cI := cI) (cG := cG) (cL := cL) (w := WW cI cG cL adE ad hh o) (ad := ad) (WW_model hh o) f2) (cwV 2 X.1.2.2.2.2 hL_X7_read rfl rfl rfl (by decide +kernel) ⟨Nat.le_of_ble_eq_true rfl, Nat.le_of_ble_eq_true rfl⟩) (q0 := 85) (ci := 5) rfl ((WW_model hh o).1 μ).1 rfl hl.1 rfl (Nat.le_of_ble_eq_true rfl) dL_law_664 ⟨hc, hs⟩) (fun H locs hS => ?_)
    refine lv_istore (lv' := [(6, .int r), (5, .int 3), (0, .ref b), (1, .ref (ad 0)), (2, .ref (ad 85)), (3, .ref (ad 92)), (4, .int i)]) hx hb dL_law_667 hl (by decide) rfl (fun ls hl => ?_)
    refine lv_aload_n hx hb dL_law_669 rfl (lv_at hl 4 rfl) ?_
    refine r_ci hS (r_runV (As := []) (rest := []) X hS (c_X7_thrown l hE (D := D) (cI := cI) (cG := cG) (cL := cL) (w := WW cI cG cL adE ad hh o) (ad := ad) (WW_model hh o) f3) (cwV 0 X.1.2.2.2.2 hL_X7_thrown rfl rfl rfl (by decide +kernel) ⟨Nat.le_of_ble_eq_true rfl, Nat.le_of_ble_eq_true rfl⟩) (q0 := 85) (ci := 5) rfl ((WW_model hh o).1 μ').1 rfl hl.1 rfl (Nat.le_of_ble_eq_true rfl) dL_law_670 ⟨hc, hs⟩) (fun H locs hS => ?_)
    refine lv_iload hx hb dL_law_673 (lv_at hl 1 rfl) ?_
    refine lv_icmp_eq (tgt := 680) hx hb dL_law_675 (by decide) (fun _ => ?_) (fun cc => absurd rfl cc)
    refine lv_iload hx hb dL_law_680 (lv_at hl 1 rfl) ?_
    refine lv_if_ne (tgt := 697) hx hb dL_law_682 (by decide) (fun _ => ?_) (fun cc => absurd cc (by decide))
    refine lv_goto (tgt := 1405) hx hb dL_law_697 (by decide) ?_
    exact kend o H locs ls hS (lv_sub hl [2, 3, 4, 5, 6] rfl)
def St_10 (a1 a2 : Int32) (μ μ' : Mem) : Prop := (∃ (r : Int32), f_X6_entry 0 a1 a2 μ = some r ∧ f_X7_entry 85 a1 a2 μ = some (r, μ') ∧ f_X7_thrown 85 μ' = some 0) ∨ (f_X6_entry_t 0 a1 a2 μ = some 1 ∧ ∃ r : Int32, f_X7_entry 85 a1 a2 μ = some (r, μ') ∧ f_X7_thrown 85 μ' = some 1) ∨ (f_X6_entry_t 0 a1 a2 μ = some 2 ∧ ∃ r : Int32, f_X7_entry 85 a1 a2 μ = some (r, μ') ∧ f_X7_thrown 85 μ' = some 2)
set_option maxHeartbeats 4000000 in
set_option maxRecDepth 100000 in
theorem k_L_10 (l : Launch) {D : va_G} {cI cG cL : ClassId} {A : Nat → Prop} {tC tS : Nat} {adE adK adV ad : Nat → Nat} (hE : EnOK (ENV tC tS adE adK adV A) A) (hst : l.stackTraces = false) {p : Program} {e : Env} {s : State} {m : MethodId} {below : List Frame} {meth : Method} {c : Code} {b L : Nat} {xs : Nat → Int32} (X : Cx p s m #[.ref b] c cL_law 7 vsL_law RL D (tyl cI cG cL) A (ENV tC tS adE adK adV A)) (hX : va_X b L xs s s.heap) (hbl : b < s.heap.size) (hbA : ¬ A b) {H : Heap} {locs : List Loc} {ls : Array Slot} {hh o : Int64} {μ : Mem} {i : Int32} (hS : HS D A (WW cI cG cL adE ad hh o μ) s.heap H locs) (hl : lv_has ls 7 [(0, .ref b), (1, .ref (ad 0)), (2, .ref (ad 85)), (3, .ref (ad 92)), (4, .int i)]) (h1 : vp_in (i + 1) L) (h2 : vp_in (i + 2) L) {cells slots : Nat} (hc : cells + 1 ≤ 601024) (hs : slots + 6 ≤ 7293034) {Q : State → Prop} {μ' : Mem} {hh' : Int64} (st : St_10 (xs (i + 1).toNatClampNeg) (xs (i + 2).toNatClampNeg) μ μ') (eh : hh = hh') (kend : ∀ (o : Int64) (H : Heap) (locs : List Loc) (ls : Array Slot), HS D A (WW cI cG cL adE ad hh' o μ') s.heap H locs → lv_has ls 7 [(0, .ref b), (1, .ref (ad 0)), (2, .ref (ad 85)), (3, .ref (ad 92)), (4, .int i)] → W p l e room_1 s m #[.ref b] below meth c H locs (cells + 1) (slots + 6) Q (F0 m 1405 ls [])) : W p l e room_1 s m #[.ref b] below meth c H locs cells slots Q (F0 m 700 ls []) := by
  subst eh
  have hx := X.1.1
  have hb := X.1.2.1
  rcases st with ⟨r, f1, f2, f3⟩ | ⟨f1, r, f2, f3⟩ | ⟨f1, r, f2, f3⟩
  · refine lv_aload_n hx hb dL_law_700 rfl (lv_at hl 1 rfl) ?_
    refine lv_aload_n hx hb dL_law_701 rfl (lv_at hl 0 rfl) ?_
    refine lv_iload hx hb dL_law_702 (lv_at hl 4 rfl) ?_
    refine lv_iconst (v := 1) hx hb dL_law_704 (by decide) ?_
    refine lv_iadd hx hb dL_law_705 ?_
    refine va_sld hx hb hX hbl hbA hS.2.2 h1 dL_law_706 ?_
    refine lv_aload_n hx hb dL_law_707 rfl (lv_at hl 0 rfl) ?_
    refine lv_iload hx hb dL_law_708 (lv_at hl 4 rfl) ?_
    refine lv_iconst (v := 2) hx hb dL_law_710 (by decide) ?_
    refine lv_iadd hx hb dL_law_711 ?_
    refine va_sld hx hb hX hbl hbA hS.2.2 h2 dL_law_712 ?_
    refine lv_aload_n hx hb dL_law_713 rfl (lv_at hl 3 rfl) ?_
    refine r_cim hS (r_runSW (mc := 0) (ms := 0) (As := [.ref (ad 0), .int (xs (i + 1).toNatClampNeg), .int (xs (i + 2).toNatClampNeg), .ref (ad 92)]) (rest := []) X hS (o_L_entry l hE (D := D) (cI := cI) (cG := cG) (cL := cL) (wo := WW cI cG cL adE ad hh) (ad := ad) (q := 0) (qo := 92) (o := o) (μ := μ) (fun o => WW_pg hh o) (WW_out hh) f1) (vx_cwSW (hh := [(0, 10, 13, 37), (0, 10, 17, 19)]) 4 X.1.2.2.2.2 hL_L_entry rfl rfl rfl (by decide +kernel) ⟨Nat.le_of_ble_eq_true rfl, Nat.le_of_ble_eq_true rfl⟩) rfl hl.1 rfl (Nat.le_of_ble_eq_true rfl) dL_law_714 ⟨Nat.le_of_lt hc, Nat.le_trans (Nat.le_add_right slots 6) hs⟩) (fun H locs hS => ?_)
    refine lv_istore (lv' := [(5, .int 0), (0, .ref b), (1, .ref (ad 0)), (2, .ref (ad 85)), (3, .ref (ad 92)), (4, .int i)]) hx hb dL_law_717 hl (by decide) rfl (fun ls hl => ?_)
    refine lv_aload_n hx hb dL_law_719 rfl (lv_at hl 3 rfl) ?_
    refine lv_aload_n hx hb dL_law_720 rfl (lv_at hl 1 rfl) ?_
    refine lv_iload hx hb dL_law_721 (lv_at hl 5 rfl) ?_
    refine lv_iconst (v := 1) hx hb dL_law_723 (by decide) ?_
    refine lv_iadd hx hb dL_law_724 ?_
    refine va_sld hx hb hX hbl hbA hS.2.2 h1 dL_law_725 ?_
    refine lv_aload_n hx hb dL_law_726 rfl (lv_at hl 1 rfl) ?_
    refine lv_iload hx hb dL_law_727 (lv_at hl 5 rfl) ?_
    refine lv_iconst (v := 2) hx hb dL_law_729 (by decide) ?_
    refine lv_iadd hx hb dL_law_730 ?_
    refine va_sld hx hb hX hbl hbA hS.2.2 h2 dL_law_731 ?_
    refine r_ci hS (r_runV (As := [.int (xs (i + 1).toNatClampNeg), .int (xs (i + 2).toNatClampNeg)]) (rest := []) X hS (c_X7_entry l hE (D := D) (cI := cI) (cG := cG) (cL := cL) (w := WW cI cG cL adE ad hh r.toInt64) (ad := ad) (WW_model hh r.toInt64) f2) (cwV 2 X.1.2.2.2.2 hL_X7_entry rfl rfl rfl (by decide +kernel) ⟨Nat.le_of_ble_eq_true rfl, Nat.le_of_ble_eq_true rfl⟩) (q0 := 85) (ci := 5) rfl ((WW_model hh r.toInt64).1 μ).1 rfl hl.1 rfl (Nat.le_of_ble_eq_true rfl) dL_law_732 ⟨Nat.le_of_lt hc, Nat.le_trans (Nat.le_add_right slots 6) hs⟩) (fun H locs hS => ?_)
    refine lv_istore (lv' := [(6, .int r), (5, .int 0), (0, .ref b), (1, .ref (ad 0)), (2, .ref (ad 85)), (3, .ref (ad 92)), (4, .int i)]) hx hb dL_law_735 hl (by decide) rfl (fun ls hl => ?_)
    refine lv_aload_n hx hb dL_law_737 rfl (lv_at hl 4 rfl) ?_
    refine r_ci hS (r_runV (As := []) (rest := []) X hS (c_X7_thrown l hE (D := D) (cI := cI) (cG := cG) (cL := cL) (w := WW cI cG cL adE ad hh r.toInt64) (ad := ad) (WW_model hh r.toInt64) f3) (cwV 0 X.1.2.2.2.2 hL_X7_thrown rfl rfl rfl (by decide +kernel) ⟨Nat.le_of_ble_eq_true rfl, Nat.le_of_ble_eq_true rfl⟩) (q0 := 85) (ci := 5) rfl ((WW_model hh r.toInt64).1 μ').1 rfl hl.1 rfl (Nat.le_of_ble_eq_true rfl) dL_law_738 ⟨Nat.le_of_lt hc, Nat.le_trans (Nat.le_add_right slots 6) hs⟩) (fun H locs hS => ?_)
    refine lv_iload hx hb dL_law_741 (lv_at hl 1 rfl) ?_
    refine lv_icmp_eq (tgt := 748) hx hb dL_law_743 (by decide) (fun _ => ?_) (fun cc => absurd rfl cc)
    refine lv_iload hx hb dL_law_748 (lv_at hl 1 rfl) ?_
    refine lv_if_ne (tgt := 765) hx hb dL_law_750 (by decide) (fun cc => absurd rfl cc) (fun _ => ?_)
    refine lv_aload_n hx hb dL_law_753 rfl (lv_at hl 5 rfl) ?_
    refine lv_iconst (v := 0) hx hb dL_law_754 (by decide) ?_
    refine r_lald X hS (WW_out hh) dL_law_755 ?_
    refine lv_iload hx hb dL_law_756 (lv_at hl 0 rfl) ?_
    refine lv_i2l (v := r.toInt64) hx hb dL_law_758 rfl ?_
    refine W.lcmp hx hb dL_law_759 ?_
    refine lv_if_eq (tgt := 765) hx hb dL_law_760 (by decide) (fun _ => ?_) (fun cc => absurd (lg_self _) cc)
    refine lv_goto (tgt := 1405) hx hb dL_law_765 (by decide) ?_
    refine W.widen (k := cells + 1) (n := slots + 6) (Nat.le_succ _) (Nat.le_add_right _ _) ?_
    exact kend r.toInt64 H locs ls hS (lv_sub hl [2, 3, 4, 5, 6] rfl)
  · refine lv_aload_n hx hb dL_law_700 rfl (lv_at hl 1 rfl) ?_
    refine lv_aload_n hx hb dL_law_701 rfl (lv_at hl 0 rfl) ?_
    refine lv_iload hx hb dL_law_702 (lv_at hl 4 rfl) ?_
    refine lv_iconst (v := 1) hx hb dL_law_704 (by decide) ?_
    refine lv_iadd hx hb dL_law_705 ?_
    refine va_sld hx hb hX hbl hbA hS.2.2 h1 dL_law_706 ?_
    refine lv_aload_n hx hb dL_law_707 rfl (lv_at hl 0 rfl) ?_
    refine lv_iload hx hb dL_law_708 (lv_at hl 4 rfl) ?_
    refine lv_iconst (v := 2) hx hb dL_law_710 (by decide) ?_
    refine lv_iadd hx hb dL_law_711 ?_
    refine va_sld hx hb hX hbl hbA hS.2.2 h2 dL_law_712 ?_
    refine lv_aload_n hx hb dL_law_713 rfl (lv_at hl 3 rfl) ?_
    refine r_cim hS (r_runSW (mc := 1) (ms := 6) (As := [.ref (ad 0), .int (xs (i + 1).toNatClampNeg), .int (xs (i + 2).toNatClampNeg), .ref (ad 92)]) (rest := []) X hS (x_L_entry_1 l hE (D := D) (cI := cI) (cG := cG) (cL := cL) (wo := WW cI cG cL adE ad hh) (ad := ad) (q := 0) (qo := 92) (o := o) (μ := μ) (fun o => WW_pg hh o) (WW_out hh) hst f1) (vx_cwSW (hh := [(0, 10, 13, 37), (0, 10, 17, 19)]) 4 X.1.2.2.2.2 hL_L_entry rfl rfl rfl (by decide +kernel) ⟨Nat.le_of_ble_eq_true rfl, Nat.le_of_ble_eq_true rfl⟩) rfl hl.1 rfl (Nat.le_of_ble_eq_true rfl) dL_law_714 ⟨hc, hs⟩) (fun H locs hS => ?_)
    refine lv_istore (lv' := [(5, .int 1), (0, .ref b), (1, .ref (ad 0)), (2, .ref (ad 85)), (3, .ref (ad 92)), (4, .int i)]) hx hb dL_law_717 hl (by decide) rfl (fun ls hl => ?_)
    refine lv_aload_n hx hb dL_law_719 rfl (lv_at hl 3 rfl) ?_
    refine lv_aload_n hx hb dL_law_720 rfl (lv_at hl 1 rfl) ?_
    refine lv_iload hx hb dL_law_721 (lv_at hl 5 rfl) ?_
    refine lv_iconst (v := 1) hx hb dL_law_723 (by decide) ?_
    refine lv_iadd hx hb dL_law_724 ?_
    refine va_sld hx hb hX hbl hbA hS.2.2 h1 dL_law_725 ?_
    refine lv_aload_n hx hb dL_law_726 rfl (lv_at hl 1 rfl) ?_
    refine lv_iload hx hb dL_law_727 (lv_at hl 5 rfl) ?_
    refine lv_iconst (v := 2) hx hb dL_law_729 (by decide) ?_
    refine lv_iadd hx hb dL_law_730 ?_
    refine va_sld hx hb hX hbl hbA hS.2.2 h2 dL_law_731 ?_
    refine r_ci hS (r_runV (As := [.int (xs (i + 1).toNatClampNeg), .int (xs (i + 2).toNatClampNeg)]) (rest := []) X hS (c_X7_entry l hE (D := D) (cI := cI) (cG := cG) (cL := cL) (w := WW cI cG cL adE ad hh o) (ad := ad) (WW_model hh o) f2) (cwV 2 X.1.2.2.2.2 hL_X7_entry rfl rfl rfl (by decide +kernel) ⟨Nat.le_of_ble_eq_true rfl, Nat.le_of_ble_eq_true rfl⟩) (q0 := 85) (ci := 5) rfl ((WW_model hh o).1 μ).1 rfl hl.1 rfl (Nat.le_of_ble_eq_true rfl) dL_law_732 ⟨hc, hs⟩) (fun H locs hS => ?_)
    refine lv_istore (lv' := [(6, .int r), (5, .int 1), (0, .ref b), (1, .ref (ad 0)), (2, .ref (ad 85)), (3, .ref (ad 92)), (4, .int i)]) hx hb dL_law_735 hl (by decide) rfl (fun ls hl => ?_)
    refine lv_aload_n hx hb dL_law_737 rfl (lv_at hl 4 rfl) ?_
    refine r_ci hS (r_runV (As := []) (rest := []) X hS (c_X7_thrown l hE (D := D) (cI := cI) (cG := cG) (cL := cL) (w := WW cI cG cL adE ad hh o) (ad := ad) (WW_model hh o) f3) (cwV 0 X.1.2.2.2.2 hL_X7_thrown rfl rfl rfl (by decide +kernel) ⟨Nat.le_of_ble_eq_true rfl, Nat.le_of_ble_eq_true rfl⟩) (q0 := 85) (ci := 5) rfl ((WW_model hh o).1 μ').1 rfl hl.1 rfl (Nat.le_of_ble_eq_true rfl) dL_law_738 ⟨hc, hs⟩) (fun H locs hS => ?_)
    refine lv_iload hx hb dL_law_741 (lv_at hl 1 rfl) ?_
    refine lv_icmp_eq (tgt := 748) hx hb dL_law_743 (by decide) (fun _ => ?_) (fun cc => absurd rfl cc)
    refine lv_iload hx hb dL_law_748 (lv_at hl 1 rfl) ?_
    refine lv_if_ne (tgt := 765) hx hb dL_law_750 (by decide) (fun _ => ?_) (fun cc => absurd cc (by decide))
    refine lv_goto (tgt := 1405) hx hb dL_law_765 (by decide) ?_
    exact kend o H locs ls hS (lv_sub hl [2, 3, 4, 5, 6] rfl)
  · refine lv_aload_n hx hb dL_law_700 rfl (lv_at hl 1 rfl) ?_
    refine lv_aload_n hx hb dL_law_701 rfl (lv_at hl 0 rfl) ?_
    refine lv_iload hx hb dL_law_702 (lv_at hl 4 rfl) ?_
    refine lv_iconst (v := 1) hx hb dL_law_704 (by decide) ?_
    refine lv_iadd hx hb dL_law_705 ?_
    refine va_sld hx hb hX hbl hbA hS.2.2 h1 dL_law_706 ?_
    refine lv_aload_n hx hb dL_law_707 rfl (lv_at hl 0 rfl) ?_
    refine lv_iload hx hb dL_law_708 (lv_at hl 4 rfl) ?_
    refine lv_iconst (v := 2) hx hb dL_law_710 (by decide) ?_
    refine lv_iadd hx hb dL_law_711 ?_
    refine va_sld hx hb hX hbl hbA hS.2.2 h2 dL_law_712 ?_
    refine lv_aload_n hx hb dL_law_713 rfl (lv_at hl 3 rfl) ?_
    refine r_cim hS (r_runSW (mc := 1) (ms := 6) (As := [.ref (ad 0), .int (xs (i + 1).toNatClampNeg), .int (xs (i + 2).toNatClampNeg), .ref (ad 92)]) (rest := []) X hS (x_L_entry_2 l hE (D := D) (cI := cI) (cG := cG) (cL := cL) (wo := WW cI cG cL adE ad hh) (ad := ad) (q := 0) (qo := 92) (o := o) (μ := μ) (fun o => WW_pg hh o) (WW_out hh) hst f1) (vx_cwSW (hh := [(0, 10, 13, 37), (0, 10, 17, 19)]) 4 X.1.2.2.2.2 hL_L_entry rfl rfl rfl (by decide +kernel) ⟨Nat.le_of_ble_eq_true rfl, Nat.le_of_ble_eq_true rfl⟩) rfl hl.1 rfl (Nat.le_of_ble_eq_true rfl) dL_law_714 ⟨hc, hs⟩) (fun H locs hS => ?_)
    refine lv_istore (lv' := [(5, .int 2), (0, .ref b), (1, .ref (ad 0)), (2, .ref (ad 85)), (3, .ref (ad 92)), (4, .int i)]) hx hb dL_law_717 hl (by decide) rfl (fun ls hl => ?_)
    refine lv_aload_n hx hb dL_law_719 rfl (lv_at hl 3 rfl) ?_
    refine lv_aload_n hx hb dL_law_720 rfl (lv_at hl 1 rfl) ?_
    refine lv_iload hx hb dL_law_721 (lv_at hl 5 rfl) ?_
    refine lv_iconst (v := 1) hx hb dL_law_723 (by decide) ?_
    refine lv_iadd hx hb dL_law_724 ?_
    refine va_sld hx hb hX hbl hbA hS.2.2 h1 dL_law_725 ?_
    refine lv_aload_n hx hb dL_law_726 rfl (lv_at hl 1 rfl) ?_
    refine lv_iload hx hb dL_law_727 (lv_at hl 5 rfl) ?_
    refine lv_iconst (v := 2) hx hb dL_law_729 (by decide) ?_
    refine lv_iadd hx hb dL_law_730 ?_
    refine va_sld hx hb hX hbl hbA hS.2.2 h2 dL_law_731 ?_
    refine r_ci hS (r_runV (As := [.int (xs (i + 1).toNatClampNeg), .int (xs (i + 2).toNatClampNeg)]) (rest := []) X hS (c_X7_entry l hE (D := D) (cI := cI) (cG := cG) (cL := cL) (w := WW cI cG cL adE ad hh o) (ad := ad) (WW_model hh o) f2) (cwV 2 X.1.2.2.2.2 hL_X7_entry rfl rfl rfl (by decide +kernel) ⟨Nat.le_of_ble_eq_true rfl, Nat.le_of_ble_eq_true rfl⟩) (q0 := 85) (ci := 5) rfl ((WW_model hh o).1 μ).1 rfl hl.1 rfl (Nat.le_of_ble_eq_true rfl) dL_law_732 ⟨hc, hs⟩) (fun H locs hS => ?_)
    refine lv_istore (lv' := [(6, .int r), (5, .int 2), (0, .ref b), (1, .ref (ad 0)), (2, .ref (ad 85)), (3, .ref (ad 92)), (4, .int i)]) hx hb dL_law_735 hl (by decide) rfl (fun ls hl => ?_)
    refine lv_aload_n hx hb dL_law_737 rfl (lv_at hl 4 rfl) ?_
    refine r_ci hS (r_runV (As := []) (rest := []) X hS (c_X7_thrown l hE (D := D) (cI := cI) (cG := cG) (cL := cL) (w := WW cI cG cL adE ad hh o) (ad := ad) (WW_model hh o) f3) (cwV 0 X.1.2.2.2.2 hL_X7_thrown rfl rfl rfl (by decide +kernel) ⟨Nat.le_of_ble_eq_true rfl, Nat.le_of_ble_eq_true rfl⟩) (q0 := 85) (ci := 5) rfl ((WW_model hh o).1 μ').1 rfl hl.1 rfl (Nat.le_of_ble_eq_true rfl) dL_law_738 ⟨hc, hs⟩) (fun H locs hS => ?_)
    refine lv_iload hx hb dL_law_741 (lv_at hl 1 rfl) ?_
    refine lv_icmp_eq (tgt := 748) hx hb dL_law_743 (by decide) (fun _ => ?_) (fun cc => absurd rfl cc)
    refine lv_iload hx hb dL_law_748 (lv_at hl 1 rfl) ?_
    refine lv_if_ne (tgt := 765) hx hb dL_law_750 (by decide) (fun _ => ?_) (fun cc => absurd cc (by decide))
    refine lv_goto (tgt := 1405) hx hb dL_law_765 (by decide) ?_
    exact kend o H locs ls hS (lv_sub hl [2, 3, 4, 5, 6] rfl)
def St_11 (a1 a2 : Int32) (μ μ' : Mem) : Prop := (∃ (r : Int32), f_X6_root 0 a1 a2 μ = some r ∧ f_X7_root 85 a1 a2 μ = some (r, μ') ∧ f_X7_thrown 85 μ' = some 0) ∨ (f_X6_root_t 0 a1 a2 μ = some 1 ∧ ∃ r : Int32, f_X7_root 85 a1 a2 μ = some (r, μ') ∧ f_X7_thrown 85 μ' = some 1) ∨ (f_X6_root_t 0 a1 a2 μ = some 2 ∧ ∃ r : Int32, f_X7_root 85 a1 a2 μ = some (r, μ') ∧ f_X7_thrown 85 μ' = some 2)
set_option maxHeartbeats 4000000 in
set_option maxRecDepth 100000 in
theorem k_L_11 (l : Launch) {D : va_G} {cI cG cL : ClassId} {A : Nat → Prop} {tC tS : Nat} {adE adK adV ad : Nat → Nat} (hE : EnOK (ENV tC tS adE adK adV A) A) (hst : l.stackTraces = false) {p : Program} {e : Env} {s : State} {m : MethodId} {below : List Frame} {meth : Method} {c : Code} {b L : Nat} {xs : Nat → Int32} (X : Cx p s m #[.ref b] c cL_law 7 vsL_law RL D (tyl cI cG cL) A (ENV tC tS adE adK adV A)) (hX : va_X b L xs s s.heap) (hbl : b < s.heap.size) (hbA : ¬ A b) {H : Heap} {locs : List Loc} {ls : Array Slot} {hh o : Int64} {μ : Mem} {i : Int32} (hS : HS D A (WW cI cG cL adE ad hh o μ) s.heap H locs) (hl : lv_has ls 7 [(0, .ref b), (1, .ref (ad 0)), (2, .ref (ad 85)), (3, .ref (ad 92)), (4, .int i)]) (h1 : vp_in (i + 1) L) (h2 : vp_in (i + 2) L) {cells slots : Nat} (hc : cells + 1 ≤ 601024) (hs : slots + 6 ≤ 7293034) {Q : State → Prop} {μ' : Mem} {hh' : Int64} (st : St_11 (xs (i + 1).toNatClampNeg) (xs (i + 2).toNatClampNeg) μ μ') (eh : hh = hh') (kend : ∀ (o : Int64) (H : Heap) (locs : List Loc) (ls : Array Slot), HS D A (WW cI cG cL adE ad hh' o μ') s.heap H locs → lv_has ls 7 [(0, .ref b), (1, .ref (ad 0)), (2, .ref (ad 85)), (3, .ref (ad 92)), (4, .int i)] → W p l e room_1 s m #[.ref b] below meth c H locs (cells + 1) (slots + 6) Q (F0 m 1405 ls [])) : W p l e room_1 s m #[.ref b] below meth c H locs cells slots Q (F0 m 768 ls []) := by
  subst eh
  have hx := X.1.1
  have hb := X.1.2.1
  rcases st with ⟨r, f1, f2, f3⟩ | ⟨f1, r, f2, f3⟩ | ⟨f1, r, f2, f3⟩
  · refine lv_aload_n hx hb dL_law_768 rfl (lv_at hl 1 rfl) ?_
    refine lv_aload_n hx hb dL_law_769 rfl (lv_at hl 0 rfl) ?_
    refine lv_iload hx hb dL_law_770 (lv_at hl 4 rfl) ?_
    refine lv_iconst (v := 1) hx hb dL_law_772 (by decide) ?_
    refine lv_iadd hx hb dL_law_773 ?_
    refine va_sld hx hb hX hbl hbA hS.2.2 h1 dL_law_774 ?_
    refine lv_aload_n hx hb dL_law_775 rfl (lv_at hl 0 rfl) ?_
    refine lv_iload hx hb dL_law_776 (lv_at hl 4 rfl) ?_
    refine lv_iconst (v := 2) hx hb dL_law_778 (by decide) ?_
    refine lv_iadd hx hb dL_law_779 ?_
    refine va_sld hx hb hX hbl hbA hS.2.2 h2 dL_law_780 ?_
    refine lv_aload_n hx hb dL_law_781 rfl (lv_at hl 3 rfl) ?_
    refine r_cim hS (r_runSW (mc := 0) (ms := 0) (As := [.ref (ad 0), .int (xs (i + 1).toNatClampNeg), .int (xs (i + 2).toNatClampNeg), .ref (ad 92)]) (rest := []) X hS (o_L_root l hE (D := D) (cI := cI) (cG := cG) (cL := cL) (wo := WW cI cG cL adE ad hh) (ad := ad) (q := 0) (qo := 92) (o := o) (μ := μ) (fun o => WW_pg hh o) (WW_out hh) f1) (vx_cwSW (hh := [(0, 10, 13, 37), (0, 10, 17, 19)]) 4 X.1.2.2.2.2 hL_L_root rfl rfl rfl (by decide +kernel) ⟨Nat.le_of_ble_eq_true rfl, Nat.le_of_ble_eq_true rfl⟩) rfl hl.1 rfl (Nat.le_of_ble_eq_true rfl) dL_law_782 ⟨Nat.le_of_lt hc, Nat.le_trans (Nat.le_add_right slots 6) hs⟩) (fun H locs hS => ?_)
    refine lv_istore (lv' := [(5, .int 0), (0, .ref b), (1, .ref (ad 0)), (2, .ref (ad 85)), (3, .ref (ad 92)), (4, .int i)]) hx hb dL_law_785 hl (by decide) rfl (fun ls hl => ?_)
    refine lv_aload_n hx hb dL_law_787 rfl (lv_at hl 3 rfl) ?_
    refine lv_aload_n hx hb dL_law_788 rfl (lv_at hl 1 rfl) ?_
    refine lv_iload hx hb dL_law_789 (lv_at hl 5 rfl) ?_
    refine lv_iconst (v := 1) hx hb dL_law_791 (by decide) ?_
    refine lv_iadd hx hb dL_law_792 ?_
    refine va_sld hx hb hX hbl hbA hS.2.2 h1 dL_law_793 ?_
    refine lv_aload_n hx hb dL_law_794 rfl (lv_at hl 1 rfl) ?_
    refine lv_iload hx hb dL_law_795 (lv_at hl 5 rfl) ?_
    refine lv_iconst (v := 2) hx hb dL_law_797 (by decide) ?_
    refine lv_iadd hx hb dL_law_798 ?_
    refine va_sld hx hb hX hbl hbA hS.2.2 h2 dL_law_799 ?_
    refine r_ci hS (r_runV (As := [.int (xs (i + 1).toNatClampNeg), .int (xs (i + 2).toNatClampNeg)]) (rest := []) X hS (c_X7_root l hE (D := D) (cI := cI) (cG := cG) (cL := cL) (w := WW cI cG cL adE ad hh r.toInt64) (ad := ad) (WW_model hh r.toInt64) f2) (cwV 2 X.1.2.2.2.2 hL_X7_root rfl rfl rfl (by decide +kernel) ⟨Nat.le_of_ble_eq_true rfl, Nat.le_of_ble_eq_true rfl⟩) (q0 := 85) (ci := 5) rfl ((WW_model hh r.toInt64).1 μ).1 rfl hl.1 rfl (Nat.le_of_ble_eq_true rfl) dL_law_800 ⟨Nat.le_of_lt hc, Nat.le_trans (Nat.le_add_right slots 6) hs⟩) (fun H locs hS => ?_)
    refine lv_istore (lv' := [(6, .int r), (5, .int 0), (0, .ref b), (1, .ref (ad 0)), (2, .ref (ad 85)), (3, .ref (ad 92)), (4, .int i)]) hx hb dL_law_803 hl (by decide) rfl (fun ls hl => ?_)
    refine lv_aload_n hx hb dL_law_805 rfl (lv_at hl 4 rfl) ?_
    refine r_ci hS (r_runV (As := []) (rest := []) X hS (c_X7_thrown l hE (D := D) (cI := cI) (cG := cG) (cL := cL) (w := WW cI cG cL adE ad hh r.toInt64) (ad := ad) (WW_model hh r.toInt64) f3) (cwV 0 X.1.2.2.2.2 hL_X7_thrown rfl rfl rfl (by decide +kernel) ⟨Nat.le_of_ble_eq_true rfl, Nat.le_of_ble_eq_true rfl⟩) (q0 := 85) (ci := 5) rfl ((WW_model hh r.toInt64).1 μ').1 rfl hl.1 rfl (Nat.le_of_ble_eq_true rfl) dL_law_806 ⟨Nat.le_of_lt hc, Nat.le_trans (Nat.le_add_right slots 6) hs⟩) (fun H locs hS => ?_)
    refine lv_iload hx hb dL_law_809 (lv_at hl 1 rfl) ?_
    refine lv_icmp_eq (tgt := 816) hx hb dL_law_811 (by decide) (fun _ => ?_) (fun cc => absurd rfl cc)
    refine lv_iload hx hb dL_law_816 (lv_at hl 1 rfl) ?_
    refine lv_if_ne (tgt := 833) hx hb dL_law_818 (by decide) (fun cc => absurd rfl cc) (fun _ => ?_)
    refine lv_aload_n hx hb dL_law_821 rfl (lv_at hl 5 rfl) ?_
    refine lv_iconst (v := 0) hx hb dL_law_822 (by decide) ?_
    refine r_lald X hS (WW_out hh) dL_law_823 ?_
    refine lv_iload hx hb dL_law_824 (lv_at hl 0 rfl) ?_
    refine lv_i2l (v := r.toInt64) hx hb dL_law_826 rfl ?_
    refine W.lcmp hx hb dL_law_827 ?_
    refine lv_if_eq (tgt := 833) hx hb dL_law_828 (by decide) (fun _ => ?_) (fun cc => absurd (lg_self _) cc)
    refine lv_goto (tgt := 1405) hx hb dL_law_833 (by decide) ?_
    refine W.widen (k := cells + 1) (n := slots + 6) (Nat.le_succ _) (Nat.le_add_right _ _) ?_
    exact kend r.toInt64 H locs ls hS (lv_sub hl [2, 3, 4, 5, 6] rfl)
  · refine lv_aload_n hx hb dL_law_768 rfl (lv_at hl 1 rfl) ?_
    refine lv_aload_n hx hb dL_law_769 rfl (lv_at hl 0 rfl) ?_
    refine lv_iload hx hb dL_law_770 (lv_at hl 4 rfl) ?_
    refine lv_iconst (v := 1) hx hb dL_law_772 (by decide) ?_
    refine lv_iadd hx hb dL_law_773 ?_
    refine va_sld hx hb hX hbl hbA hS.2.2 h1 dL_law_774 ?_
    refine lv_aload_n hx hb dL_law_775 rfl (lv_at hl 0 rfl) ?_
    refine lv_iload hx hb dL_law_776 (lv_at hl 4 rfl) ?_
    refine lv_iconst (v := 2) hx hb dL_law_778 (by decide) ?_
    refine lv_iadd hx hb dL_law_779 ?_
    refine va_sld hx hb hX hbl hbA hS.2.2 h2 dL_law_780 ?_
    refine lv_aload_n hx hb dL_law_781 rfl (lv_at hl 3 rfl) ?_
    refine r_cim hS (r_runSW (mc := 1) (ms := 6) (As := [.ref (ad 0), .int (xs (i + 1).toNatClampNeg), .int (xs (i + 2).toNatClampNeg), .ref (ad 92)]) (rest := []) X hS (x_L_root_1 l hE (D := D) (cI := cI) (cG := cG) (cL := cL) (wo := WW cI cG cL adE ad hh) (ad := ad) (q := 0) (qo := 92) (o := o) (μ := μ) (fun o => WW_pg hh o) (WW_out hh) hst f1) (vx_cwSW (hh := [(0, 10, 13, 37), (0, 10, 17, 19)]) 4 X.1.2.2.2.2 hL_L_root rfl rfl rfl (by decide +kernel) ⟨Nat.le_of_ble_eq_true rfl, Nat.le_of_ble_eq_true rfl⟩) rfl hl.1 rfl (Nat.le_of_ble_eq_true rfl) dL_law_782 ⟨hc, hs⟩) (fun H locs hS => ?_)
    refine lv_istore (lv' := [(5, .int 1), (0, .ref b), (1, .ref (ad 0)), (2, .ref (ad 85)), (3, .ref (ad 92)), (4, .int i)]) hx hb dL_law_785 hl (by decide) rfl (fun ls hl => ?_)
    refine lv_aload_n hx hb dL_law_787 rfl (lv_at hl 3 rfl) ?_
    refine lv_aload_n hx hb dL_law_788 rfl (lv_at hl 1 rfl) ?_
    refine lv_iload hx hb dL_law_789 (lv_at hl 5 rfl) ?_
    refine lv_iconst (v := 1) hx hb dL_law_791 (by decide) ?_
    refine lv_iadd hx hb dL_law_792 ?_
    refine va_sld hx hb hX hbl hbA hS.2.2 h1 dL_law_793 ?_
    refine lv_aload_n hx hb dL_law_794 rfl (lv_at hl 1 rfl) ?_
    refine lv_iload hx hb dL_law_795 (lv_at hl 5 rfl) ?_
    refine lv_iconst (v := 2) hx hb dL_law_797 (by decide) ?_
    refine lv_iadd hx hb dL_law_798 ?_
    refine va_sld hx hb hX hbl hbA hS.2.2 h2 dL_law_799 ?_
    refine r_ci hS (r_runV (As := [.int (xs (i + 1).toNatClampNeg), .int (xs (i + 2).toNatClampNeg)]) (rest := []) X hS (c_X7_root l hE (D := D) (cI := cI) (cG := cG) (cL := cL) (w := WW cI cG cL adE ad hh o) (ad := ad) (WW_model hh o) f2) (cwV 2 X.1.2.2.2.2 hL_X7_root rfl rfl rfl (by decide +kernel) ⟨Nat.le_of_ble_eq_true rfl, Nat.le_of_ble_eq_true rfl⟩) (q0 := 85) (ci := 5) rfl ((WW_model hh o).1 μ).1 rfl hl.1 rfl (Nat.le_of_ble_eq_true rfl) dL_law_800 ⟨hc, hs⟩) (fun H locs hS => ?_)
    refine lv_istore (lv' := [(6, .int r), (5, .int 1), (0, .ref b), (1, .ref (ad 0)), (2, .ref (ad 85)), (3, .ref (ad 92)), (4, .int i)]) hx hb dL_law_803 hl (by decide) rfl (fun ls hl => ?_)
    refine lv_aload_n hx hb dL_law_805 rfl (lv_at hl 4 rfl) ?_
    refine r_ci hS (r_runV (As := []) (rest := []) X hS (c_X7_thrown l hE (D := D) (cI := cI) (cG := cG) (cL := cL) (w := WW cI cG cL adE ad hh o) (ad := ad) (WW_model hh o) f3) (cwV 0 X.1.2.2.2.2 hL_X7_thrown rfl rfl rfl (by decide +kernel) ⟨Nat.le_of_ble_eq_true rfl, Nat.le_of_ble_eq_true rfl⟩) (q0 := 85) (ci := 5) rfl ((WW_model hh o).1 μ').1 rfl hl.1 rfl (Nat.le_of_ble_eq_true rfl) dL_law_806 ⟨hc, hs⟩) (fun H locs hS => ?_)
    refine lv_iload hx hb dL_law_809 (lv_at hl 1 rfl) ?_
    refine lv_icmp_eq (tgt := 816) hx hb dL_law_811 (by decide) (fun _ => ?_) (fun cc => absurd rfl cc)
    refine lv_iload hx hb dL_law_816 (lv_at hl 1 rfl) ?_
    refine lv_if_ne (tgt := 833) hx hb dL_law_818 (by decide) (fun _ => ?_) (fun cc => absurd cc (by decide))
    refine lv_goto (tgt := 1405) hx hb dL_law_833 (by decide) ?_
    exact kend o H locs ls hS (lv_sub hl [2, 3, 4, 5, 6] rfl)
  · refine lv_aload_n hx hb dL_law_768 rfl (lv_at hl 1 rfl) ?_
    refine lv_aload_n hx hb dL_law_769 rfl (lv_at hl 0 rfl) ?_
    refine lv_iload hx hb dL_law_770 (lv_at hl 4 rfl) ?_
    refine lv_iconst (v := 1) hx hb dL_law_772 (by decide) ?_
    refine lv_iadd hx hb dL_law_773 ?_
    refine va_sld hx hb hX hbl hbA hS.2.2 h1 dL_law_774 ?_
    refine lv_aload_n hx hb dL_law_775 rfl (lv_at hl 0 rfl) ?_
    refine lv_iload hx hb dL_law_776 (lv_at hl 4 rfl) ?_
    refine lv_iconst (v := 2) hx hb dL_law_778 (by decide) ?_
    refine lv_iadd hx hb dL_law_779 ?_
    refine va_sld hx hb hX hbl hbA hS.2.2 h2 dL_law_780 ?_
    refine lv_aload_n hx hb dL_law_781 rfl (lv_at hl 3 rfl) ?_
    refine r_cim hS (r_runSW (mc := 1) (ms := 6) (As := [.ref (ad 0), .int (xs (i + 1).toNatClampNeg), .int (xs (i + 2).toNatClampNeg), .ref (ad 92)]) (rest := []) X hS (x_L_root_2 l hE (D := D) (cI := cI) (cG := cG) (cL := cL) (wo := WW cI cG cL adE ad hh) (ad := ad) (q := 0) (qo := 92) (o := o) (μ := μ) (fun o => WW_pg hh o) (WW_out hh) hst f1) (vx_cwSW (hh := [(0, 10, 13, 37), (0, 10, 17, 19)]) 4 X.1.2.2.2.2 hL_L_root rfl rfl rfl (by decide +kernel) ⟨Nat.le_of_ble_eq_true rfl, Nat.le_of_ble_eq_true rfl⟩) rfl hl.1 rfl (Nat.le_of_ble_eq_true rfl) dL_law_782 ⟨hc, hs⟩) (fun H locs hS => ?_)
    refine lv_istore (lv' := [(5, .int 2), (0, .ref b), (1, .ref (ad 0)), (2, .ref (ad 85)), (3, .ref (ad 92)), (4, .int i)]) hx hb dL_law_785 hl (by decide) rfl (fun ls hl => ?_)
    refine lv_aload_n hx hb dL_law_787 rfl (lv_at hl 3 rfl) ?_
    refine lv_aload_n hx hb dL_law_788 rfl (lv_at hl 1 rfl) ?_
    refine lv_iload hx hb dL_law_789 (lv_at hl 5 rfl) ?_
    refine lv_iconst (v := 1) hx hb dL_law_791 (by decide) ?_
    refine lv_iadd hx hb dL_law_792 ?_
    refine va_sld hx hb hX hbl hbA hS.2.2 h1 dL_law_793 ?_
    refine lv_aload_n hx hb dL_law_794 rfl (lv_at hl 1 rfl) ?_
    refine lv_iload hx hb dL_law_795 (lv_at hl 5 rfl) ?_
    refine lv_iconst (v := 2) hx hb dL_law_797 (by decide) ?_
    refine lv_iadd hx hb dL_law_798 ?_
    refine va_sld hx hb hX hbl hbA hS.2.2 h2 dL_law_799 ?_
    refine r_ci hS (r_runV (As := [.int (xs (i + 1).toNatClampNeg), .int (xs (i + 2).toNatClampNeg)]) (rest := []) X hS (c_X7_root l hE (D := D) (cI := cI) (cG := cG) (cL := cL) (w := WW cI cG cL adE ad hh o) (ad := ad) (WW_model hh o) f2) (cwV 2 X.1.2.2.2.2 hL_X7_root rfl rfl rfl (by decide +kernel) ⟨Nat.le_of_ble_eq_true rfl, Nat.le_of_ble_eq_true rfl⟩) (q0 := 85) (ci := 5) rfl ((WW_model hh o).1 μ).1 rfl hl.1 rfl (Nat.le_of_ble_eq_true rfl) dL_law_800 ⟨hc, hs⟩) (fun H locs hS => ?_)
    refine lv_istore (lv' := [(6, .int r), (5, .int 2), (0, .ref b), (1, .ref (ad 0)), (2, .ref (ad 85)), (3, .ref (ad 92)), (4, .int i)]) hx hb dL_law_803 hl (by decide) rfl (fun ls hl => ?_)
    refine lv_aload_n hx hb dL_law_805 rfl (lv_at hl 4 rfl) ?_
    refine r_ci hS (r_runV (As := []) (rest := []) X hS (c_X7_thrown l hE (D := D) (cI := cI) (cG := cG) (cL := cL) (w := WW cI cG cL adE ad hh o) (ad := ad) (WW_model hh o) f3) (cwV 0 X.1.2.2.2.2 hL_X7_thrown rfl rfl rfl (by decide +kernel) ⟨Nat.le_of_ble_eq_true rfl, Nat.le_of_ble_eq_true rfl⟩) (q0 := 85) (ci := 5) rfl ((WW_model hh o).1 μ').1 rfl hl.1 rfl (Nat.le_of_ble_eq_true rfl) dL_law_806 ⟨hc, hs⟩) (fun H locs hS => ?_)
    refine lv_iload hx hb dL_law_809 (lv_at hl 1 rfl) ?_
    refine lv_icmp_eq (tgt := 816) hx hb dL_law_811 (by decide) (fun _ => ?_) (fun cc => absurd rfl cc)
    refine lv_iload hx hb dL_law_816 (lv_at hl 1 rfl) ?_
    refine lv_if_ne (tgt := 833) hx hb dL_law_818 (by decide) (fun _ => ?_) (fun cc => absurd cc (by decide))
    refine lv_goto (tgt := 1405) hx hb dL_law_833 (by decide) ?_
    exact kend o H locs ls hS (lv_sub hl [2, 3, 4, 5, 6] rfl)
def St_12 (a1 a2 : Int32) (μ μ' : Mem) : Prop := (∃ (r : Int32), f_X6_reader 0 a1 a2 μ = some r ∧ f_X7_reader 85 a1 a2 μ = some (r, μ') ∧ f_X7_thrown 85 μ' = some 0) ∨ (f_X6_reader_t 0 a1 a2 μ = some 1 ∧ ∃ r : Int32, f_X7_reader 85 a1 a2 μ = some (r, μ') ∧ f_X7_thrown 85 μ' = some 1) ∨ (f_X6_reader_t 0 a1 a2 μ = some 2 ∧ ∃ r : Int32, f_X7_reader 85 a1 a2 μ = some (r, μ') ∧ f_X7_thrown 85 μ' = some 2)
set_option maxHeartbeats 4000000 in
set_option maxRecDepth 100000 in
theorem k_L_12 (l : Launch) {D : va_G} {cI cG cL : ClassId} {A : Nat → Prop} {tC tS : Nat} {adE adK adV ad : Nat → Nat} (hE : EnOK (ENV tC tS adE adK adV A) A) (hst : l.stackTraces = false) {p : Program} {e : Env} {s : State} {m : MethodId} {below : List Frame} {meth : Method} {c : Code} {b L : Nat} {xs : Nat → Int32} (X : Cx p s m #[.ref b] c cL_law 7 vsL_law RL D (tyl cI cG cL) A (ENV tC tS adE adK adV A)) (hX : va_X b L xs s s.heap) (hbl : b < s.heap.size) (hbA : ¬ A b) {H : Heap} {locs : List Loc} {ls : Array Slot} {hh o : Int64} {μ : Mem} {i : Int32} (hS : HS D A (WW cI cG cL adE ad hh o μ) s.heap H locs) (hl : lv_has ls 7 [(0, .ref b), (1, .ref (ad 0)), (2, .ref (ad 85)), (3, .ref (ad 92)), (4, .int i)]) (h1 : vp_in (i + 1) L) (h2 : vp_in (i + 2) L) {cells slots : Nat} (hc : cells + 1 ≤ 601024) (hs : slots + 6 ≤ 7293034) {Q : State → Prop} {μ' : Mem} {hh' : Int64} (st : St_12 (xs (i + 1).toNatClampNeg) (xs (i + 2).toNatClampNeg) μ μ') (eh : hh = hh') (kend : ∀ (o : Int64) (H : Heap) (locs : List Loc) (ls : Array Slot), HS D A (WW cI cG cL adE ad hh' o μ') s.heap H locs → lv_has ls 7 [(0, .ref b), (1, .ref (ad 0)), (2, .ref (ad 85)), (3, .ref (ad 92)), (4, .int i)] → W p l e room_1 s m #[.ref b] below meth c H locs (cells + 1) (slots + 6) Q (F0 m 1405 ls [])) : W p l e room_1 s m #[.ref b] below meth c H locs cells slots Q (F0 m 836 ls []) := by
  subst eh
  have hx := X.1.1
  have hb := X.1.2.1
  rcases st with ⟨r, f1, f2, f3⟩ | ⟨f1, r, f2, f3⟩ | ⟨f1, r, f2, f3⟩
  · refine lv_aload_n hx hb dL_law_836 rfl (lv_at hl 1 rfl) ?_
    refine lv_aload_n hx hb dL_law_837 rfl (lv_at hl 0 rfl) ?_
    refine lv_iload hx hb dL_law_838 (lv_at hl 4 rfl) ?_
    refine lv_iconst (v := 1) hx hb dL_law_840 (by decide) ?_
    refine lv_iadd hx hb dL_law_841 ?_
    refine va_sld hx hb hX hbl hbA hS.2.2 h1 dL_law_842 ?_
    refine lv_aload_n hx hb dL_law_843 rfl (lv_at hl 0 rfl) ?_
    refine lv_iload hx hb dL_law_844 (lv_at hl 4 rfl) ?_
    refine lv_iconst (v := 2) hx hb dL_law_846 (by decide) ?_
    refine lv_iadd hx hb dL_law_847 ?_
    refine va_sld hx hb hX hbl hbA hS.2.2 h2 dL_law_848 ?_
    refine lv_aload_n hx hb dL_law_849 rfl (lv_at hl 3 rfl) ?_
    refine r_cim hS (r_runSW (mc := 0) (ms := 0) (As := [.ref (ad 0), .int (xs (i + 1).toNatClampNeg), .int (xs (i + 2).toNatClampNeg), .ref (ad 92)]) (rest := []) X hS (o_L_reader l hE (D := D) (cI := cI) (cG := cG) (cL := cL) (wo := WW cI cG cL adE ad hh) (ad := ad) (q := 0) (qo := 92) (o := o) (μ := μ) (fun o => WW_pg hh o) (WW_out hh) f1) (vx_cwSW (hh := [(0, 10, 13, 37), (0, 10, 17, 19)]) 4 X.1.2.2.2.2 hL_L_reader rfl rfl rfl (by decide +kernel) ⟨Nat.le_of_ble_eq_true rfl, Nat.le_of_ble_eq_true rfl⟩) rfl hl.1 rfl (Nat.le_of_ble_eq_true rfl) dL_law_850 ⟨Nat.le_of_lt hc, Nat.le_trans (Nat.le_add_right slots 6) hs⟩) (fun H locs hS => ?_)
    refine lv_istore (lv' := [(5, .int 0), (0, .ref b), (1, .ref (ad 0)), (2, .ref (ad 85)), (3, .ref (ad 92)), (4, .int i)]) hx hb dL_law_853 hl (by decide) rfl (fun ls hl => ?_)
    refine lv_aload_n hx hb dL_law_855 rfl (lv_at hl 3 rfl) ?_
    refine lv_aload_n hx hb dL_law_856 rfl (lv_at hl 1 rfl) ?_
    refine lv_iload hx hb dL_law_857 (lv_at hl 5 rfl) ?_
    refine lv_iconst (v := 1) hx hb dL_law_859 (by decide) ?_
    refine lv_iadd hx hb dL_law_860 ?_
    refine va_sld hx hb hX hbl hbA hS.2.2 h1 dL_law_861 ?_
    refine lv_aload_n hx hb dL_law_862 rfl (lv_at hl 1 rfl) ?_
    refine lv_iload hx hb dL_law_863 (lv_at hl 5 rfl) ?_
    refine lv_iconst (v := 2) hx hb dL_law_865 (by decide) ?_
    refine lv_iadd hx hb dL_law_866 ?_
    refine va_sld hx hb hX hbl hbA hS.2.2 h2 dL_law_867 ?_
    refine r_ci hS (r_runV (As := [.int (xs (i + 1).toNatClampNeg), .int (xs (i + 2).toNatClampNeg)]) (rest := []) X hS (c_X7_reader l hE (D := D) (cI := cI) (cG := cG) (cL := cL) (w := WW cI cG cL adE ad hh r.toInt64) (ad := ad) (WW_model hh r.toInt64) f2) (cwV 2 X.1.2.2.2.2 hL_X7_reader rfl rfl rfl (by decide +kernel) ⟨Nat.le_of_ble_eq_true rfl, Nat.le_of_ble_eq_true rfl⟩) (q0 := 85) (ci := 5) rfl ((WW_model hh r.toInt64).1 μ).1 rfl hl.1 rfl (Nat.le_of_ble_eq_true rfl) dL_law_868 ⟨Nat.le_of_lt hc, Nat.le_trans (Nat.le_add_right slots 6) hs⟩) (fun H locs hS => ?_)
    refine lv_istore (lv' := [(6, .int r), (5, .int 0), (0, .ref b), (1, .ref (ad 0)), (2, .ref (ad 85)), (3, .ref (ad 92)), (4, .int i)]) hx hb dL_law_871 hl (by decide) rfl (fun ls hl => ?_)
    refine lv_aload_n hx hb dL_law_873 rfl (lv_at hl 4 rfl) ?_
    refine r_ci hS (r_runV (As := []) (rest := []) X hS (c_X7_thrown l hE (D := D) (cI := cI) (cG := cG) (cL := cL) (w := WW cI cG cL adE ad hh r.toInt64) (ad := ad) (WW_model hh r.toInt64) f3) (cwV 0 X.1.2.2.2.2 hL_X7_thrown rfl rfl rfl (by decide +kernel) ⟨Nat.le_of_ble_eq_true rfl, Nat.le_of_ble_eq_true rfl⟩) (q0 := 85) (ci := 5) rfl ((WW_model hh r.toInt64).1 μ').1 rfl hl.1 rfl (Nat.le_of_ble_eq_true rfl) dL_law_874 ⟨Nat.le_of_lt hc, Nat.le_trans (Nat.le_add_right slots 6) hs⟩) (fun H locs hS => ?_)
    refine lv_iload hx hb dL_law_877 (lv_at hl 1 rfl) ?_
    refine lv_icmp_eq (tgt := 884) hx hb dL_law_879 (by decide) (fun _ => ?_) (fun cc => absurd rfl cc)
    refine lv_iload hx hb dL_law_884 (lv_at hl 1 rfl) ?_
    refine lv_if_ne (tgt := 901) hx hb dL_law_886 (by decide) (fun cc => absurd rfl cc) (fun _ => ?_)
    refine lv_aload_n hx hb dL_law_889 rfl (lv_at hl 5 rfl) ?_
    refine lv_iconst (v := 0) hx hb dL_law_890 (by decide) ?_
    refine r_lald X hS (WW_out hh) dL_law_891 ?_
    refine lv_iload hx hb dL_law_892 (lv_at hl 0 rfl) ?_
    refine lv_i2l (v := r.toInt64) hx hb dL_law_894 rfl ?_
    refine W.lcmp hx hb dL_law_895 ?_
    refine lv_if_eq (tgt := 901) hx hb dL_law_896 (by decide) (fun _ => ?_) (fun cc => absurd (lg_self _) cc)
    refine lv_goto (tgt := 1405) hx hb dL_law_901 (by decide) ?_
    refine W.widen (k := cells + 1) (n := slots + 6) (Nat.le_succ _) (Nat.le_add_right _ _) ?_
    exact kend r.toInt64 H locs ls hS (lv_sub hl [2, 3, 4, 5, 6] rfl)
  · refine lv_aload_n hx hb dL_law_836 rfl (lv_at hl 1 rfl) ?_
    refine lv_aload_n hx hb dL_law_837 rfl (lv_at hl 0 rfl) ?_
    refine lv_iload hx hb dL_law_838 (lv_at hl 4 rfl) ?_
    refine lv_iconst (v := 1) hx hb dL_law_840 (by decide) ?_
    refine lv_iadd hx hb dL_law_841 ?_
    refine va_sld hx hb hX hbl hbA hS.2.2 h1 dL_law_842 ?_
    refine lv_aload_n hx hb dL_law_843 rfl (lv_at hl 0 rfl) ?_
    refine lv_iload hx hb dL_law_844 (lv_at hl 4 rfl) ?_
    refine lv_iconst (v := 2) hx hb dL_law_846 (by decide) ?_
    refine lv_iadd hx hb dL_law_847 ?_
    refine va_sld hx hb hX hbl hbA hS.2.2 h2 dL_law_848 ?_
    refine lv_aload_n hx hb dL_law_849 rfl (lv_at hl 3 rfl) ?_
    refine r_cim hS (r_runSW (mc := 1) (ms := 6) (As := [.ref (ad 0), .int (xs (i + 1).toNatClampNeg), .int (xs (i + 2).toNatClampNeg), .ref (ad 92)]) (rest := []) X hS (x_L_reader_1 l hE (D := D) (cI := cI) (cG := cG) (cL := cL) (wo := WW cI cG cL adE ad hh) (ad := ad) (q := 0) (qo := 92) (o := o) (μ := μ) (fun o => WW_pg hh o) (WW_out hh) hst f1) (vx_cwSW (hh := [(0, 10, 13, 37), (0, 10, 17, 19)]) 4 X.1.2.2.2.2 hL_L_reader rfl rfl rfl (by decide +kernel) ⟨Nat.le_of_ble_eq_true rfl, Nat.le_of_ble_eq_true rfl⟩) rfl hl.1 rfl (Nat.le_of_ble_eq_true rfl) dL_law_850 ⟨hc, hs⟩) (fun H locs hS => ?_)
    refine lv_istore (lv' := [(5, .int 1), (0, .ref b), (1, .ref (ad 0)), (2, .ref (ad 85)), (3, .ref (ad 92)), (4, .int i)]) hx hb dL_law_853 hl (by decide) rfl (fun ls hl => ?_)
    refine lv_aload_n hx hb dL_law_855 rfl (lv_at hl 3 rfl) ?_
    refine lv_aload_n hx hb dL_law_856 rfl (lv_at hl 1 rfl) ?_
    refine lv_iload hx hb dL_law_857 (lv_at hl 5 rfl) ?_
    refine lv_iconst (v := 1) hx hb dL_law_859 (by decide) ?_
    refine lv_iadd hx hb dL_law_860 ?_
    refine va_sld hx hb hX hbl hbA hS.2.2 h1 dL_law_861 ?_
    refine lv_aload_n hx hb dL_law_862 rfl (lv_at hl 1 rfl) ?_
    refine lv_iload hx hb dL_law_863 (lv_at hl 5 rfl) ?_
    refine lv_iconst (v := 2) hx hb dL_law_865 (by decide) ?_
    refine lv_iadd hx hb dL_law_866 ?_
    refine va_sld hx hb hX hbl hbA hS.2.2 h2 dL_law_867 ?_
    refine r_ci hS (r_runV (As := [.int (xs (i + 1).toNatClampNeg), .int (xs (i + 2).toNatClampNeg)]) (rest := []) X hS (c_X7_reader l hE (D := D) (cI := cI) (cG := cG) (cL := cL) (w := WW cI cG cL adE ad hh o) (ad := ad) (WW_model hh o) f2) (cwV 2 X.1.2.2.2.2 hL_X7_reader rfl rfl rfl (by decide +kernel) ⟨Nat.le_of_ble_eq_true rfl, Nat.le_of_ble_eq_true rfl⟩) (q0 := 85) (ci := 5) rfl ((WW_model hh o).1 μ).1 rfl hl.1 rfl (Nat.le_of_ble_eq_true rfl) dL_law_868 ⟨hc, hs⟩) (fun H locs hS => ?_)
    refine lv_istore (lv' := [(6, .int r), (5, .int 1), (0, .ref b), (1, .ref (ad 0)), (2, .ref (ad 85)), (3, .ref (ad 92)), (4, .int i)]) hx hb dL_law_871 hl (by decide) rfl (fun ls hl => ?_)
    refine lv_aload_n hx hb dL_law_873 rfl (lv_at hl 4 rfl) ?_
    refine r_ci hS (r_runV (As := []) (rest := []) X hS (c_X7_thrown l hE (D := D) (cI := cI) (cG := cG) (cL := cL) (w := WW cI cG cL adE ad hh o) (ad := ad) (WW_model hh o) f3) (cwV 0 X.1.2.2.2.2 hL_X7_thrown rfl rfl rfl (by decide +kernel) ⟨Nat.le_of_ble_eq_true rfl, Nat.le_of_ble_eq_true rfl⟩) (q0 := 85) (ci := 5) rfl ((WW_model hh o).1 μ').1 rfl hl.1 rfl (Nat.le_of_ble_eq_true rfl) dL_law_874 ⟨hc, hs⟩) (fun H locs hS => ?_)
    refine lv_iload hx hb dL_law_877 (lv_at hl 1 rfl) ?_
    refine lv_icmp_eq (tgt := 884) hx hb dL_law_879 (by decide) (fun _ => ?_) (fun cc => absurd rfl cc)
    refine lv_iload hx hb dL_law_884 (lv_at hl 1 rfl) ?_
    refine lv_if_ne (tgt := 901) hx hb dL_law_886 (by decide) (fun _ => ?_) (fun cc => absurd cc (by decide))
    refine lv_goto (tgt := 1405) hx hb dL_law_901 (by decide) ?_
    exact kend o H locs ls hS (lv_sub hl [2, 3, 4, 5, 6] rfl)
  · refine lv_aload_n hx hb dL_law_836 rfl (lv_at hl 1 rfl) ?_
    refine lv_aload_n hx hb dL_law_837 rfl (lv_at hl 0 rfl) ?_
    refine lv_iload hx hb dL_law_838 (lv_at hl 4 rfl) ?_
    refine lv_iconst (v := 1) hx hb dL_law_840 (by decide) ?_
    refine lv_iadd hx hb dL_law_841 ?_
    refine va_sld hx hb hX hbl hbA hS.2.2 h1 dL_law_842 ?_
    refine lv_aload_n hx hb dL_law_843 rfl (lv_at hl 0 rfl) ?_
    refine lv_iload hx hb dL_law_844 (lv_at hl 4 rfl) ?_
    refine lv_iconst (v := 2) hx hb dL_law_846 (by decide) ?_
    refine lv_iadd hx hb dL_law_847 ?_
    refine va_sld hx hb hX hbl hbA hS.2.2 h2 dL_law_848 ?_
    refine lv_aload_n hx hb dL_law_849 rfl (lv_at hl 3 rfl) ?_
    refine r_cim hS (r_runSW (mc := 1) (ms := 6) (As := [.ref (ad 0), .int (xs (i + 1).toNatClampNeg), .int (xs (i + 2).toNatClampNeg), .ref (ad 92)]) (rest := []) X hS (x_L_reader_2 l hE (D := D) (cI := cI) (cG := cG) (cL := cL) (wo := WW cI cG cL adE ad hh) (ad := ad) (q := 0) (qo := 92) (o := o) (μ := μ) (fun o => WW_pg hh o) (WW_out hh) hst f1) (vx_cwSW (hh := [(0, 10, 13, 37), (0, 10, 17, 19)]) 4 X.1.2.2.2.2 hL_L_reader rfl rfl rfl (by decide +kernel) ⟨Nat.le_of_ble_eq_true rfl, Nat.le_of_ble_eq_true rfl⟩) rfl hl.1 rfl (Nat.le_of_ble_eq_true rfl) dL_law_850 ⟨hc, hs⟩) (fun H locs hS => ?_)
    refine lv_istore (lv' := [(5, .int 2), (0, .ref b), (1, .ref (ad 0)), (2, .ref (ad 85)), (3, .ref (ad 92)), (4, .int i)]) hx hb dL_law_853 hl (by decide) rfl (fun ls hl => ?_)
    refine lv_aload_n hx hb dL_law_855 rfl (lv_at hl 3 rfl) ?_
    refine lv_aload_n hx hb dL_law_856 rfl (lv_at hl 1 rfl) ?_
    refine lv_iload hx hb dL_law_857 (lv_at hl 5 rfl) ?_
    refine lv_iconst (v := 1) hx hb dL_law_859 (by decide) ?_
    refine lv_iadd hx hb dL_law_860 ?_
    refine va_sld hx hb hX hbl hbA hS.2.2 h1 dL_law_861 ?_
    refine lv_aload_n hx hb dL_law_862 rfl (lv_at hl 1 rfl) ?_
    refine lv_iload hx hb dL_law_863 (lv_at hl 5 rfl) ?_
    refine lv_iconst (v := 2) hx hb dL_law_865 (by decide) ?_
    refine lv_iadd hx hb dL_law_866 ?_
    refine va_sld hx hb hX hbl hbA hS.2.2 h2 dL_law_867 ?_
    refine r_ci hS (r_runV (As := [.int (xs (i + 1).toNatClampNeg), .int (xs (i + 2).toNatClampNeg)]) (rest := []) X hS (c_X7_reader l hE (D := D) (cI := cI) (cG := cG) (cL := cL) (w := WW cI cG cL adE ad hh o) (ad := ad) (WW_model hh o) f2) (cwV 2 X.1.2.2.2.2 hL_X7_reader rfl rfl rfl (by decide +kernel) ⟨Nat.le_of_ble_eq_true rfl, Nat.le_of_ble_eq_true rfl⟩) (q0 := 85) (ci := 5) rfl ((WW_model hh o).1 μ).1 rfl hl.1 rfl (Nat.le_of_ble_eq_true rfl) dL_law_868 ⟨hc, hs⟩) (fun H locs hS => ?_)
    refine lv_istore (lv' := [(6, .int r), (5, .int 2), (0, .ref b), (1, .ref (ad 0)), (2, .ref (ad 85)), (3, .ref (ad 92)), (4, .int i)]) hx hb dL_law_871 hl (by decide) rfl (fun ls hl => ?_)
    refine lv_aload_n hx hb dL_law_873 rfl (lv_at hl 4 rfl) ?_
    refine r_ci hS (r_runV (As := []) (rest := []) X hS (c_X7_thrown l hE (D := D) (cI := cI) (cG := cG) (cL := cL) (w := WW cI cG cL adE ad hh o) (ad := ad) (WW_model hh o) f3) (cwV 0 X.1.2.2.2.2 hL_X7_thrown rfl rfl rfl (by decide +kernel) ⟨Nat.le_of_ble_eq_true rfl, Nat.le_of_ble_eq_true rfl⟩) (q0 := 85) (ci := 5) rfl ((WW_model hh o).1 μ').1 rfl hl.1 rfl (Nat.le_of_ble_eq_true rfl) dL_law_874 ⟨hc, hs⟩) (fun H locs hS => ?_)
    refine lv_iload hx hb dL_law_877 (lv_at hl 1 rfl) ?_
    refine lv_icmp_eq (tgt := 884) hx hb dL_law_879 (by decide) (fun _ => ?_) (fun cc => absurd rfl cc)
    refine lv_iload hx hb dL_law_884 (lv_at hl 1 rfl) ?_
    refine lv_if_ne (tgt := 901) hx hb dL_law_886 (by decide) (fun _ => ?_) (fun cc => absurd cc (by decide))
    refine lv_goto (tgt := 1405) hx hb dL_law_901 (by decide) ?_
    exact kend o H locs ls hS (lv_sub hl [2, 3, 4, 5, 6] rfl)
def St_13 (a1 a2 : Int32) (μ μ' : Mem) : Prop := (∃ (r : Int32), f_X6_bed 0 a1 a2 μ = some r ∧ f_X7_bed 85 a1 a2 μ = some (r, μ') ∧ f_X7_thrown 85 μ' = some 0) ∨ (f_X6_bed_t 0 a1 a2 μ = some 1 ∧ ∃ r : Int32, f_X7_bed 85 a1 a2 μ = some (r, μ') ∧ f_X7_thrown 85 μ' = some 1) ∨ (f_X6_bed_t 0 a1 a2 μ = some 2 ∧ ∃ r : Int32, f_X7_bed 85 a1 a2 μ = some (r, μ') ∧ f_X7_thrown 85 μ' = some 2)
set_option maxHeartbeats 4000000 in
set_option maxRecDepth 100000 in
theorem k_L_13 (l : Launch) {D : va_G} {cI cG cL : ClassId} {A : Nat → Prop} {tC tS : Nat} {adE adK adV ad : Nat → Nat} (hE : EnOK (ENV tC tS adE adK adV A) A) (hst : l.stackTraces = false) {p : Program} {e : Env} {s : State} {m : MethodId} {below : List Frame} {meth : Method} {c : Code} {b L : Nat} {xs : Nat → Int32} (X : Cx p s m #[.ref b] c cL_law 7 vsL_law RL D (tyl cI cG cL) A (ENV tC tS adE adK adV A)) (hX : va_X b L xs s s.heap) (hbl : b < s.heap.size) (hbA : ¬ A b) {H : Heap} {locs : List Loc} {ls : Array Slot} {hh o : Int64} {μ : Mem} {i : Int32} (hS : HS D A (WW cI cG cL adE ad hh o μ) s.heap H locs) (hl : lv_has ls 7 [(0, .ref b), (1, .ref (ad 0)), (2, .ref (ad 85)), (3, .ref (ad 92)), (4, .int i)]) (h1 : vp_in (i + 1) L) (h2 : vp_in (i + 2) L) {cells slots : Nat} (hc : cells + 1 ≤ 601024) (hs : slots + 6 ≤ 7293034) {Q : State → Prop} {μ' : Mem} {hh' : Int64} (st : St_13 (xs (i + 1).toNatClampNeg) (xs (i + 2).toNatClampNeg) μ μ') (eh : hh = hh') (kend : ∀ (o : Int64) (H : Heap) (locs : List Loc) (ls : Array Slot), HS D A (WW cI cG cL adE ad hh' o μ') s.heap H locs → lv_has ls 7 [(0, .ref b), (1, .ref (ad 0)), (2, .ref (ad 85)), (3, .ref (ad 92)), (4, .int i)] → W p l e room_1 s m #[.ref b] below meth c H locs (cells + 1) (slots + 6) Q (F0 m 1405 ls [])) : W p l e room_1 s m #[.ref b] below meth c H locs cells slots Q (F0 m 904 ls []) := by
  subst eh
  have hx := X.1.1
  have hb := X.1.2.1
  rcases st with ⟨r, f1, f2, f3⟩ | ⟨f1, r, f2, f3⟩ | ⟨f1, r, f2, f3⟩
  · refine lv_aload_n hx hb dL_law_904 rfl (lv_at hl 1 rfl) ?_
    refine lv_aload_n hx hb dL_law_905 rfl (lv_at hl 0 rfl) ?_
    refine lv_iload hx hb dL_law_906 (lv_at hl 4 rfl) ?_
    refine lv_iconst (v := 1) hx hb dL_law_908 (by decide) ?_
    refine lv_iadd hx hb dL_law_909 ?_
    refine va_sld hx hb hX hbl hbA hS.2.2 h1 dL_law_910 ?_
    refine lv_aload_n hx hb dL_law_911 rfl (lv_at hl 0 rfl) ?_
    refine lv_iload hx hb dL_law_912 (lv_at hl 4 rfl) ?_
    refine lv_iconst (v := 2) hx hb dL_law_914 (by decide) ?_
    refine lv_iadd hx hb dL_law_915 ?_
    refine va_sld hx hb hX hbl hbA hS.2.2 h2 dL_law_916 ?_
    refine lv_aload_n hx hb dL_law_917 rfl (lv_at hl 3 rfl) ?_
    refine r_cim hS (r_runSW (mc := 0) (ms := 0) (As := [.ref (ad 0), .int (xs (i + 1).toNatClampNeg), .int (xs (i + 2).toNatClampNeg), .ref (ad 92)]) (rest := []) X hS (o_L_bed l hE (D := D) (cI := cI) (cG := cG) (cL := cL) (wo := WW cI cG cL adE ad hh) (ad := ad) (q := 0) (qo := 92) (o := o) (μ := μ) (fun o => WW_pg hh o) (WW_out hh) f1) (vx_cwSW (hh := [(0, 10, 13, 37), (0, 10, 17, 19)]) 4 X.1.2.2.2.2 hL_L_bed rfl rfl rfl (by decide +kernel) ⟨Nat.le_of_ble_eq_true rfl, Nat.le_of_ble_eq_true rfl⟩) rfl hl.1 rfl (Nat.le_of_ble_eq_true rfl) dL_law_918 ⟨Nat.le_of_lt hc, Nat.le_trans (Nat.le_add_right slots 6) hs⟩) (fun H locs hS => ?_)
    refine lv_istore (lv' := [(5, .int 0), (0, .ref b), (1, .ref (ad 0)), (2, .ref (ad 85)), (3, .ref (ad 92)), (4, .int i)]) hx hb dL_law_921 hl (by decide) rfl (fun ls hl => ?_)
    refine lv_aload_n hx hb dL_law_923 rfl (lv_at hl 3 rfl) ?_
    refine lv_aload_n hx hb dL_law_924 rfl (lv_at hl 1 rfl) ?_
    refine lv_iload hx hb dL_law_925 (lv_at hl 5 rfl) ?_
    refine lv_iconst (v := 1) hx hb dL_law_927 (by decide) ?_
    refine lv_iadd hx hb dL_law_928 ?_
    refine va_sld hx hb hX hbl hbA hS.2.2 h1 dL_law_929 ?_
    refine lv_aload_n hx hb dL_law_930 rfl (lv_at hl 1 rfl) ?_
    refine lv_iload hx hb dL_law_931 (lv_at hl 5 rfl) ?_
    refine lv_iconst (v := 2) hx hb dL_law_933 (by decide) ?_
    refine lv_iadd hx hb dL_law_934 ?_
    refine va_sld hx hb hX hbl hbA hS.2.2 h2 dL_law_935 ?_
    refine r_ci hS (r_runV (As := [.int (xs (i + 1).toNatClampNeg), .int (xs (i + 2).toNatClampNeg)]) (rest := []) X hS (c_X7_bed l hE (D := D) (cI := cI) (cG := cG) (cL := cL) (w := WW cI cG cL adE ad hh r.toInt64) (ad := ad) (WW_model hh r.toInt64) f2) (cwV 2 X.1.2.2.2.2 hL_X7_bed rfl rfl rfl (by decide +kernel) ⟨Nat.le_of_ble_eq_true rfl, Nat.le_of_ble_eq_true rfl⟩) (q0 := 85) (ci := 5) rfl ((WW_model hh r.toInt64).1 μ).1 rfl hl.1 rfl (Nat.le_of_ble_eq_true rfl) dL_law_936 ⟨Nat.le_of_lt hc, Nat.le_trans (Nat.le_add_right slots 6) hs⟩) (fun H locs hS => ?_)
    refine lv_istore (lv' := [(6, .int r), (5, .int 0), (0, .ref b), (1, .ref (ad 0)), (2, .ref (ad 85)), (3, .ref (ad 92)), (4, .int i)]) hx hb dL_law_939 hl (by decide) rfl (fun ls hl => ?_)
    refine lv_aload_n hx hb dL_law_941 rfl (lv_at hl 4 rfl) ?_
    refine r_ci hS (r_runV (As := []) (rest := []) X hS (c_X7_thrown l hE (D := D) (cI := cI) (cG := cG) (cL := cL) (w := WW cI cG cL adE ad hh r.toInt64) (ad := ad) (WW_model hh r.toInt64) f3) (cwV 0 X.1.2.2.2.2 hL_X7_thrown rfl rfl rfl (by decide +kernel) ⟨Nat.le_of_ble_eq_true rfl, Nat.le_of_ble_eq_true rfl⟩) (q0 := 85) (ci := 5) rfl ((WW_model hh r.toInt64).1 μ').1 rfl hl.1 rfl (Nat.le_of_ble_eq_true rfl) dL_law_942 ⟨Nat.le_of_lt hc, Nat.le_trans (Nat.le_add_right slots 6) hs⟩) (fun H locs hS => ?_)
    refine lv_iload hx hb dL_law_945 (lv_at hl 1 rfl) ?_
    refine lv_icmp_eq (tgt := 952) hx hb dL_law_947 (by decide) (fun _ => ?_) (fun cc => absurd rfl cc)
    refine lv_iload hx hb dL_law_952 (lv_at hl 1 rfl) ?_
    refine lv_if_ne (tgt := 969) hx hb dL_law_954 (by decide) (fun cc => absurd rfl cc) (fun _ => ?_)
    refine lv_aload_n hx hb dL_law_957 rfl (lv_at hl 5 rfl) ?_
    refine lv_iconst (v := 0) hx hb dL_law_958 (by decide) ?_
    refine r_lald X hS (WW_out hh) dL_law_959 ?_
    refine lv_iload hx hb dL_law_960 (lv_at hl 0 rfl) ?_
    refine lv_i2l (v := r.toInt64) hx hb dL_law_962 rfl ?_
    refine W.lcmp hx hb dL_law_963 ?_
    refine lv_if_eq (tgt := 969) hx hb dL_law_964 (by decide) (fun _ => ?_) (fun cc => absurd (lg_self _) cc)
    refine lv_goto (tgt := 1405) hx hb dL_law_969 (by decide) ?_
    refine W.widen (k := cells + 1) (n := slots + 6) (Nat.le_succ _) (Nat.le_add_right _ _) ?_
    exact kend r.toInt64 H locs ls hS (lv_sub hl [2, 3, 4, 5, 6] rfl)
  · refine lv_aload_n hx hb dL_law_904 rfl (lv_at hl 1 rfl) ?_
    refine lv_aload_n hx hb dL_law_905 rfl (lv_at hl 0 rfl) ?_
    refine lv_iload hx hb dL_law_906 (lv_at hl 4 rfl) ?_
    refine lv_iconst (v := 1) hx hb dL_law_908 (by decide) ?_
    refine lv_iadd hx hb dL_law_909 ?_
    refine va_sld hx hb hX hbl hbA hS.2.2 h1 dL_law_910 ?_
    refine lv_aload_n hx hb dL_law_911 rfl (lv_at hl 0 rfl) ?_
    refine lv_iload hx hb dL_law_912 (lv_at hl 4 rfl) ?_
    refine lv_iconst (v := 2) hx hb dL_law_914 (by decide) ?_
    refine lv_iadd hx hb dL_law_915 ?_
    refine va_sld hx hb hX hbl hbA hS.2.2 h2 dL_law_916 ?_
    refine lv_aload_n hx hb dL_law_917 rfl (lv_at hl 3 rfl) ?_
    refine r_cim hS (r_runSW (mc := 1) (ms := 6) (As := [.ref (ad 0), .int (xs (i + 1).toNatClampNeg), .int (xs (i + 2).toNatClampNeg), .ref (ad 92)]) (rest := []) X hS (x_L_bed_1 l hE (D := D) (cI := cI) (cG := cG) (cL := cL) (wo := WW cI cG cL adE ad hh) (ad := ad) (q := 0) (qo := 92) (o := o) (μ := μ) (fun o => WW_pg hh o) (WW_out hh) hst f1) (vx_cwSW (hh := [(0, 10, 13, 37), (0, 10, 17, 19)]) 4 X.1.2.2.2.2 hL_L_bed rfl rfl rfl (by decide +kernel) ⟨Nat.le_of_ble_eq_true rfl, Nat.le_of_ble_eq_true rfl⟩) rfl hl.1 rfl (Nat.le_of_ble_eq_true rfl) dL_law_918 ⟨hc, hs⟩) (fun H locs hS => ?_)
    refine lv_istore (lv' := [(5, .int 1), (0, .ref b), (1, .ref (ad 0)), (2, .ref (ad 85)), (3, .ref (ad 92)), (4, .int i)]) hx hb dL_law_921 hl (by decide) rfl (fun ls hl => ?_)
    refine lv_aload_n hx hb dL_law_923 rfl (lv_at hl 3 rfl) ?_
    refine lv_aload_n hx hb dL_law_924 rfl (lv_at hl 1 rfl) ?_
    refine lv_iload hx hb dL_law_925 (lv_at hl 5 rfl) ?_
    refine lv_iconst (v := 1) hx hb dL_law_927 (by decide) ?_
    refine lv_iadd hx hb dL_law_928 ?_
    refine va_sld hx hb hX hbl hbA hS.2.2 h1 dL_law_929 ?_
    refine lv_aload_n hx hb dL_law_930 rfl (lv_at hl 1 rfl) ?_
    refine lv_iload hx hb dL_law_931 (lv_at hl 5 rfl) ?_
    refine lv_iconst (v := 2) hx hb dL_law_933 (by decide) ?_
    refine lv_iadd hx hb dL_law_934 ?_
    refine va_sld hx hb hX hbl hbA hS.2.2 h2 dL_law_935 ?_
    refine r_ci hS (r_runV (As := [.int (xs (i + 1).toNatClampNeg), .int (xs (i + 2).toNatClampNeg)]) (rest := []) X hS (c_X7_bed l hE (D := D) (cI := cI) (cG := cG) (cL := cL) (w := WW cI cG cL adE ad hh o) (ad := ad) (WW_model hh o) f2) (cwV 2 X.1.2.2.2.2 hL_X7_bed rfl rfl rfl (by decide +kernel) ⟨Nat.le_of_ble_eq_true rfl, Nat.le_of_ble_eq_true rfl⟩) (q0 := 85) (ci := 5) rfl ((WW_model hh o).1 μ).1 rfl hl.1 rfl (Nat.le_of_ble_eq_true rfl) dL_law_936 ⟨hc, hs⟩) (fun H locs hS => ?_)
    refine lv_istore (lv' := [(6, .int r), (5, .int 1), (0, .ref b), (1, .ref (ad 0)), (2, .ref (ad 85)), (3, .ref (ad 92)), (4, .int i)]) hx hb dL_law_939 hl (by decide) rfl (fun ls hl => ?_)
    refine lv_aload_n hx hb dL_law_941 rfl (lv_at hl 4 rfl) ?_
    refine r_ci hS (r_runV (As := []) (rest := []) X hS (c_X7_thrown l hE (D := D) (cI := cI) (cG := cG) (cL := cL) (w := WW cI cG cL adE ad hh o) (ad := ad) (WW_model hh o) f3) (cwV 0 X.1.2.2.2.2 hL_X7_thrown rfl rfl rfl (by decide +kernel) ⟨Nat.le_of_ble_eq_true rfl, Nat.le_of_ble_eq_true rfl⟩) (q0 := 85) (ci := 5) rfl ((WW_model hh o).1 μ').1 rfl hl.1 rfl (Nat.le_of_ble_eq_true rfl) dL_law_942 ⟨hc, hs⟩) (fun H locs hS => ?_)
    refine lv_iload hx hb dL_law_945 (lv_at hl 1 rfl) ?_
    refine lv_icmp_eq (tgt := 952) hx hb dL_law_947 (by decide) (fun _ => ?_) (fun cc => absurd rfl cc)
    refine lv_iload hx hb dL_law_952 (lv_at hl 1 rfl) ?_
    refine lv_if_ne (tgt := 969) hx hb dL_law_954 (by decide) (fun _ => ?_) (fun cc => absurd cc (by decide))
    refine lv_goto (tgt := 1405) hx hb dL_law_969 (by decide) ?_
    exact kend o H locs ls hS (lv_sub hl [2, 3, 4, 5, 6] rfl)
  · refine lv_aload_n hx hb dL_law_904 rfl (lv_at hl 1 rfl) ?_
    refine lv_aload_n hx hb dL_law_905 rfl (lv_at hl 0 rfl) ?_
    refine lv_iload hx hb dL_law_906 (lv_at hl 4 rfl) ?_
    refine lv_iconst (v := 1) hx hb dL_law_908 (by decide) ?_
    refine lv_iadd hx hb dL_law_909 ?_
    refine va_sld hx hb hX hbl hbA hS.2.2 h1 dL_law_910 ?_
    refine lv_aload_n hx hb dL_law_911 rfl (lv_at hl 0 rfl) ?_
    refine lv_iload hx hb dL_law_912 (lv_at hl 4 rfl) ?_
    refine lv_iconst (v := 2) hx hb dL_law_914 (by decide) ?_
    refine lv_iadd hx hb dL_law_915 ?_
    refine va_sld hx hb hX hbl hbA hS.2.2 h2 dL_law_916 ?_
    refine lv_aload_n hx hb dL_law_917 rfl (lv_at hl 3 rfl) ?_
    refine r_cim hS (r_runSW (mc := 1) (ms := 6) (As := [.ref (ad 0), .int (xs (i + 1).toNatClampNeg), .int (xs (i + 2).toNatClampNeg), .ref (ad 92)]) (rest := []) X hS (x_L_bed_2 l hE (D := D) (cI := cI) (cG := cG) (cL := cL) (wo := WW cI cG cL adE ad hh) (ad := ad) (q := 0) (qo := 92) (o := o) (μ := μ) (fun o => WW_pg hh o) (WW_out hh) hst f1) (vx_cwSW (hh := [(0, 10, 13, 37), (0, 10, 17, 19)]) 4 X.1.2.2.2.2 hL_L_bed rfl rfl rfl (by decide +kernel) ⟨Nat.le_of_ble_eq_true rfl, Nat.le_of_ble_eq_true rfl⟩) rfl hl.1 rfl (Nat.le_of_ble_eq_true rfl) dL_law_918 ⟨hc, hs⟩) (fun H locs hS => ?_)
    refine lv_istore (lv' := [(5, .int 2), (0, .ref b), (1, .ref (ad 0)), (2, .ref (ad 85)), (3, .ref (ad 92)), (4, .int i)]) hx hb dL_law_921 hl (by decide) rfl (fun ls hl => ?_)
    refine lv_aload_n hx hb dL_law_923 rfl (lv_at hl 3 rfl) ?_
    refine lv_aload_n hx hb dL_law_924 rfl (lv_at hl 1 rfl) ?_
    refine lv_iload hx hb dL_law_925 (lv_at hl 5 rfl) ?_
    refine lv_iconst (v := 1) hx hb dL_law_927 (by decide) ?_
    refine lv_iadd hx hb dL_law_928 ?_
    refine va_sld hx hb hX hbl hbA hS.2.2 h1 dL_law_929 ?_
    refine lv_aload_n hx hb dL_law_930 rfl (lv_at hl 1 rfl) ?_
    refine lv_iload hx hb dL_law_931 (lv_at hl 5 rfl) ?_
    refine lv_iconst (v := 2) hx hb dL_law_933 (by decide) ?_
    refine lv_iadd hx hb dL_law_934 ?_
    refine va_sld hx hb hX hbl hbA hS.2.2 h2 dL_law_935 ?_
    refine r_ci hS (r_runV (As := [.int (xs (i + 1).toNatClampNeg), .int (xs (i + 2).toNatClampNeg)]) (rest := []) X hS (c_X7_bed l hE (D := D) (cI := cI) (cG := cG) (cL := cL) (w := WW cI cG cL adE ad hh o) (ad := ad) (WW_model hh o) f2) (cwV 2 X.1.2.2.2.2 hL_X7_bed rfl rfl rfl (by decide +kernel) ⟨Nat.le_of_ble_eq_true rfl, Nat.le_of_ble_eq_true rfl⟩) (q0 := 85) (ci := 5) rfl ((WW_model hh o).1 μ).1 rfl hl.1 rfl (Nat.le_of_ble_eq_true rfl) dL_law_936 ⟨hc, hs⟩) (fun H locs hS => ?_)
    refine lv_istore (lv' := [(6, .int r), (5, .int 2), (0, .ref b), (1, .ref (ad 0)), (2, .ref (ad 85)), (3, .ref (ad 92)), (4, .int i)]) hx hb dL_law_939 hl (by decide) rfl (fun ls hl => ?_)
    refine lv_aload_n hx hb dL_law_941 rfl (lv_at hl 4 rfl) ?_
    refine r_ci hS (r_runV (As := []) (rest := []) X hS (c_X7_thrown l hE (D := D) (cI := cI) (cG := cG) (cL := cL) (w := WW cI cG cL adE ad hh o) (ad := ad) (WW_model hh o) f3) (cwV 0 X.1.2.2.2.2 hL_X7_thrown rfl rfl rfl (by decide +kernel) ⟨Nat.le_of_ble_eq_true rfl, Nat.le_of_ble_eq_true rfl⟩) (q0 := 85) (ci := 5) rfl ((WW_model hh o).1 μ').1 rfl hl.1 rfl (Nat.le_of_ble_eq_true rfl) dL_law_942 ⟨hc, hs⟩) (fun H locs hS => ?_)
    refine lv_iload hx hb dL_law_945 (lv_at hl 1 rfl) ?_
    refine lv_icmp_eq (tgt := 952) hx hb dL_law_947 (by decide) (fun _ => ?_) (fun cc => absurd rfl cc)
    refine lv_iload hx hb dL_law_952 (lv_at hl 1 rfl) ?_
    refine lv_if_ne (tgt := 969) hx hb dL_law_954 (by decide) (fun _ => ?_) (fun cc => absurd cc (by decide))
    refine lv_goto (tgt := 1405) hx hb dL_law_969 (by decide) ?_
    exact kend o H locs ls hS (lv_sub hl [2, 3, 4, 5, 6] rfl)
def St_14 (a1 a2 : Int32) (μ μ' : Mem) : Prop := (∃ (r : Int32), f_X6_whole 0 a1 μ = some r ∧ f_X7_whole 85 a1 μ = some (r, μ') ∧ f_X7_thrown 85 μ' = some 0) ∨ (f_X6_whole_t 0 a1 μ = some 2 ∧ ∃ r : Int32, f_X7_whole 85 a1 μ = some (r, μ') ∧ f_X7_thrown 85 μ' = some 1)
set_option maxHeartbeats 4000000 in
set_option maxRecDepth 100000 in
theorem k_L_14 (l : Launch) {D : va_G} {cI cG cL : ClassId} {A : Nat → Prop} {tC tS : Nat} {adE adK adV ad : Nat → Nat} (hE : EnOK (ENV tC tS adE adK adV A) A) (hst : l.stackTraces = false) {p : Program} {e : Env} {s : State} {m : MethodId} {below : List Frame} {meth : Method} {c : Code} {b L : Nat} {xs : Nat → Int32} (X : Cx p s m #[.ref b] c cL_law 7 vsL_law RL D (tyl cI cG cL) A (ENV tC tS adE adK adV A)) (hX : va_X b L xs s s.heap) (hbl : b < s.heap.size) (hbA : ¬ A b) {H : Heap} {locs : List Loc} {ls : Array Slot} {hh o : Int64} {μ : Mem} {i : Int32} (hS : HS D A (WW cI cG cL adE ad hh o μ) s.heap H locs) (hl : lv_has ls 7 [(0, .ref b), (1, .ref (ad 0)), (2, .ref (ad 85)), (3, .ref (ad 92)), (4, .int i)]) (h1 : vp_in (i + 1) L) (h2 : vp_in (i + 2) L) {cells slots : Nat} (hc : cells + 1 ≤ 601024) (hs : slots + 6 ≤ 7293034) {Q : State → Prop} {μ' : Mem} {hh' : Int64} (st : St_14 (xs (i + 1).toNatClampNeg) (xs (i + 2).toNatClampNeg) μ μ') (eh : hh = hh') (kend : ∀ (o : Int64) (H : Heap) (locs : List Loc) (ls : Array Slot), HS D A (WW cI cG cL adE ad hh' o μ') s.heap H locs → lv_has ls 7 [(0, .ref b), (1, .ref (ad 0)), (2, .ref (ad 85)), (3, .ref (ad 92)), (4, .int i)] → W p l e room_1 s m #[.ref b] below meth c H locs (cells + 1) (slots + 6) Q (F0 m 1405 ls [])) : W p l e room_1 s m #[.ref b] below meth c H locs cells slots Q (F0 m 972 ls []) := by
  subst eh
  have hx := X.1.1
  have hb := X.1.2.1
  rcases st with ⟨r, f1, f2, f3⟩ | ⟨f1, r, f2, f3⟩
  · refine lv_aload_n hx hb dL_law_972 rfl (lv_at hl 1 rfl) ?_
    refine lv_aload_n hx hb dL_law_973 rfl (lv_at hl 0 rfl) ?_
    refine lv_iload hx hb dL_law_974 (lv_at hl 4 rfl) ?_
    refine lv_iconst (v := 1) hx hb dL_law_976 (by decide) ?_
    refine lv_iadd hx hb dL_law_977 ?_
    refine va_sld hx hb hX hbl hbA hS.2.2 h1 dL_law_978 ?_
    refine lv_aload_n hx hb dL_law_979 rfl (lv_at hl 3 rfl) ?_
    refine r_cim hS (r_runSW (mc := 0) (ms := 0) (As := [.ref (ad 0), .int (xs (i + 1).toNatClampNeg), .ref (ad 92)]) (rest := []) X hS (o_L_whole l hE (D := D) (cI := cI) (cG := cG) (cL := cL) (wo := WW cI cG cL adE ad hh) (ad := ad) (q := 0) (qo := 92) (o := o) (μ := μ) (fun o => WW_pg hh o) (WW_out hh) f1) (vx_cwSW (hh := [(0, 9, 12, 19)]) 3 X.1.2.2.2.2 hL_L_whole rfl rfl rfl (by decide +kernel) ⟨Nat.le_of_ble_eq_true rfl, Nat.le_of_ble_eq_true rfl⟩) rfl hl.1 rfl (Nat.le_of_ble_eq_true rfl) dL_law_980 ⟨Nat.le_of_lt hc, Nat.le_trans (Nat.le_add_right slots 6) hs⟩) (fun H locs hS => ?_)
    refine lv_istore (lv' := [(5, .int 0), (0, .ref b), (1, .ref (ad 0)), (2, .ref (ad 85)), (3, .ref (ad 92)), (4, .int i)]) hx hb dL_law_983 hl (by decide) rfl (fun ls hl => ?_)
    refine lv_aload_n hx hb dL_law_985 rfl (lv_at hl 3 rfl) ?_
    refine lv_aload_n hx hb dL_law_986 rfl (lv_at hl 1 rfl) ?_
    refine lv_iload hx hb dL_law_987 (lv_at hl 5 rfl) ?_
    refine lv_iconst (v := 1) hx hb dL_law_989 (by decide) ?_
    refine lv_iadd hx hb dL_law_990 ?_
    refine va_sld hx hb hX hbl hbA hS.2.2 h1 dL_law_991 ?_
    refine r_ci hS (r_runV (As := [.int (xs (i + 1).toNatClampNeg)]) (rest := []) X hS (c_X7_whole l hE (D := D) (cI := cI) (cG := cG) (cL := cL) (w := WW cI cG cL adE ad hh r.toInt64) (ad := ad) (WW_model hh r.toInt64) f2) (cwV 1 X.1.2.2.2.2 hL_X7_whole rfl rfl rfl (by decide +kernel) ⟨Nat.le_of_ble_eq_true rfl, Nat.le_of_ble_eq_true rfl⟩) (q0 := 85) (ci := 5) rfl ((WW_model hh r.toInt64).1 μ).1 rfl hl.1 rfl (Nat.le_of_ble_eq_true rfl) dL_law_992 ⟨Nat.le_of_lt hc, Nat.le_trans (Nat.le_add_right slots 6) hs⟩) (fun H locs hS => ?_)
    refine lv_istore (lv' := [(6, .int r), (5, .int 0), (0, .ref b), (1, .ref (ad 0)), (2, .ref (ad 85)), (3, .ref (ad 92)), (4, .int i)]) hx hb dL_law_995 hl (by decide) rfl (fun ls hl => ?_)
    refine lv_aload_n hx hb dL_law_997 rfl (lv_at hl 4 rfl) ?_
    refine r_ci hS (r_runV (As := []) (rest := []) X hS (c_X7_thrown l hE (D := D) (cI := cI) (cG := cG) (cL := cL) (w := WW cI cG cL adE ad hh r.toInt64) (ad := ad) (WW_model hh r.toInt64) f3) (cwV 0 X.1.2.2.2.2 hL_X7_thrown rfl rfl rfl (by decide +kernel) ⟨Nat.le_of_ble_eq_true rfl, Nat.le_of_ble_eq_true rfl⟩) (q0 := 85) (ci := 5) rfl ((WW_model hh r.toInt64).1 μ').1 rfl hl.1 rfl (Nat.le_of_ble_eq_true rfl) dL_law_998 ⟨Nat.le_of_lt hc, Nat.le_trans (Nat.le_add_right slots 6) hs⟩) (fun H locs hS => ?_)
    refine lv_iload hx hb dL_law_1001 (lv_at hl 1 rfl) ?_
    refine lv_icmp_eq (tgt := 1008) hx hb dL_law_1003 (by decide) (fun _ => ?_) (fun cc => absurd rfl cc)
    refine lv_iload hx hb dL_law_1008 (lv_at hl 1 rfl) ?_
    refine lv_if_ne (tgt := 1025) hx hb dL_law_1010 (by decide) (fun cc => absurd rfl cc) (fun _ => ?_)
    refine lv_aload_n hx hb dL_law_1013 rfl (lv_at hl 5 rfl) ?_
    refine lv_iconst (v := 0) hx hb dL_law_1014 (by decide) ?_
    refine r_lald X hS (WW_out hh) dL_law_1015 ?_
    refine lv_iload hx hb dL_law_1016 (lv_at hl 0 rfl) ?_
    refine lv_i2l (v := r.toInt64) hx hb dL_law_1018 rfl ?_
    refine W.lcmp hx hb dL_law_1019 ?_
    refine lv_if_eq (tgt := 1025) hx hb dL_law_1020 (by decide) (fun _ => ?_) (fun cc => absurd (lg_self _) cc)
    refine lv_goto (tgt := 1405) hx hb dL_law_1025 (by decide) ?_
    refine W.widen (k := cells + 1) (n := slots + 6) (Nat.le_succ _) (Nat.le_add_right _ _) ?_
    exact kend r.toInt64 H locs ls hS (lv_sub hl [2, 3, 4, 5, 6] rfl)
  · refine lv_aload_n hx hb dL_law_972 rfl (lv_at hl 1 rfl) ?_
    refine lv_aload_n hx hb dL_law_973 rfl (lv_at hl 0 rfl) ?_
    refine lv_iload hx hb dL_law_974 (lv_at hl 4 rfl) ?_
    refine lv_iconst (v := 1) hx hb dL_law_976 (by decide) ?_
    refine lv_iadd hx hb dL_law_977 ?_
    refine va_sld hx hb hX hbl hbA hS.2.2 h1 dL_law_978 ?_
    refine lv_aload_n hx hb dL_law_979 rfl (lv_at hl 3 rfl) ?_
    refine r_cim hS (r_runSW (mc := 1) (ms := 6) (As := [.ref (ad 0), .int (xs (i + 1).toNatClampNeg), .ref (ad 92)]) (rest := []) X hS (x_L_whole_2 l hE (D := D) (cI := cI) (cG := cG) (cL := cL) (wo := WW cI cG cL adE ad hh) (ad := ad) (q := 0) (qo := 92) (o := o) (μ := μ) (fun o => WW_pg hh o) (WW_out hh) hst f1) (vx_cwSW (hh := [(0, 9, 12, 19)]) 3 X.1.2.2.2.2 hL_L_whole rfl rfl rfl (by decide +kernel) ⟨Nat.le_of_ble_eq_true rfl, Nat.le_of_ble_eq_true rfl⟩) rfl hl.1 rfl (Nat.le_of_ble_eq_true rfl) dL_law_980 ⟨hc, hs⟩) (fun H locs hS => ?_)
    refine lv_istore (lv' := [(5, .int 1), (0, .ref b), (1, .ref (ad 0)), (2, .ref (ad 85)), (3, .ref (ad 92)), (4, .int i)]) hx hb dL_law_983 hl (by decide) rfl (fun ls hl => ?_)
    refine lv_aload_n hx hb dL_law_985 rfl (lv_at hl 3 rfl) ?_
    refine lv_aload_n hx hb dL_law_986 rfl (lv_at hl 1 rfl) ?_
    refine lv_iload hx hb dL_law_987 (lv_at hl 5 rfl) ?_
    refine lv_iconst (v := 1) hx hb dL_law_989 (by decide) ?_
    refine lv_iadd hx hb dL_law_990 ?_
    refine va_sld hx hb hX hbl hbA hS.2.2 h1 dL_law_991 ?_
    refine r_ci hS (r_runV (As := [.int (xs (i + 1).toNatClampNeg)]) (rest := []) X hS (c_X7_whole l hE (D := D) (cI := cI) (cG := cG) (cL := cL) (w := WW cI cG cL adE ad hh o) (ad := ad) (WW_model hh o) f2) (cwV 1 X.1.2.2.2.2 hL_X7_whole rfl rfl rfl (by decide +kernel) ⟨Nat.le_of_ble_eq_true rfl, Nat.le_of_ble_eq_true rfl⟩) (q0 := 85) (ci := 5) rfl ((WW_model hh o).1 μ).1 rfl hl.1 rfl (Nat.le_of_ble_eq_true rfl) dL_law_992 ⟨hc, hs⟩) (fun H locs hS => ?_)
    refine lv_istore (lv' := [(6, .int r), (5, .int 1), (0, .ref b), (1, .ref (ad 0)), (2, .ref (ad 85)), (3, .ref (ad 92)), (4, .int i)]) hx hb dL_law_995 hl (by decide) rfl (fun ls hl => ?_)
    refine lv_aload_n hx hb dL_law_997 rfl (lv_at hl 4 rfl) ?_
    refine r_ci hS (r_runV (As := []) (rest := []) X hS (c_X7_thrown l hE (D := D) (cI := cI) (cG := cG) (cL := cL) (w := WW cI cG cL adE ad hh o) (ad := ad) (WW_model hh o) f3) (cwV 0 X.1.2.2.2.2 hL_X7_thrown rfl rfl rfl (by decide +kernel) ⟨Nat.le_of_ble_eq_true rfl, Nat.le_of_ble_eq_true rfl⟩) (q0 := 85) (ci := 5) rfl ((WW_model hh o).1 μ').1 rfl hl.1 rfl (Nat.le_of_ble_eq_true rfl) dL_law_998 ⟨hc, hs⟩) (fun H locs hS => ?_)
    refine lv_iload hx hb dL_law_1001 (lv_at hl 1 rfl) ?_
    refine lv_icmp_eq (tgt := 1008) hx hb dL_law_1003 (by decide) (fun _ => ?_) (fun cc => absurd rfl cc)
    refine lv_iload hx hb dL_law_1008 (lv_at hl 1 rfl) ?_
    refine lv_if_ne (tgt := 1025) hx hb dL_law_1010 (by decide) (fun _ => ?_) (fun cc => absurd cc (by decide))
    refine lv_goto (tgt := 1405) hx hb dL_law_1025 (by decide) ?_
    exact kend o H locs ls hS (lv_sub hl [2, 3, 4, 5, 6] rfl)
def St_15 (μ μ' : Mem) : Prop := ∃ (r : Int32), f_X6_nextBed 0 μ = some r ∧ f_X7_nextBed 85 μ = some (r, μ')
set_option maxHeartbeats 4000000 in
set_option maxRecDepth 100000 in
theorem k_L_15 (l : Launch) {D : va_G} {cI cG cL : ClassId} {A : Nat → Prop} {tC tS : Nat} {adE adK adV ad : Nat → Nat} (hE : EnOK (ENV tC tS adE adK adV A) A) (hst : l.stackTraces = false) {p : Program} {e : Env} {s : State} {m : MethodId} {below : List Frame} {meth : Method} {c : Code} {b L : Nat} {xs : Nat → Int32} (X : Cx p s m #[.ref b] c cL_law 7 vsL_law RL D (tyl cI cG cL) A (ENV tC tS adE adK adV A)) (hX : va_X b L xs s s.heap) (hbl : b < s.heap.size) (hbA : ¬ A b) {H : Heap} {locs : List Loc} {ls : Array Slot} {hh o : Int64} {μ : Mem} {i : Int32} (hS : HS D A (WW cI cG cL adE ad hh o μ) s.heap H locs) (hl : lv_has ls 7 [(0, .ref b), (1, .ref (ad 0)), (2, .ref (ad 85)), (3, .ref (ad 92)), (4, .int i)]) (h1 : vp_in (i + 1) L) (h2 : vp_in (i + 2) L) {cells slots : Nat} (hc : cells + 1 ≤ 601024) (hs : slots + 6 ≤ 7293034) {Q : State → Prop} {μ' : Mem} {hh' : Int64} (st : St_15 μ μ') (eh : hh = hh') (kend : ∀ (o : Int64) (H : Heap) (locs : List Loc) (ls : Array Slot), HS D A (WW cI cG cL adE ad hh' o μ') s.heap H locs → lv_has ls 7 [(0, .ref b), (1, .ref (ad 0)), (2, .ref (ad 85)), (3, .ref (ad 92)), (4, .int i)] → W p l e room_1 s m #[.ref b] below meth c H locs (cells + 1) (slots + 6) Q (F0 m 1405 ls [])) : W p l e room_1 s m #[.ref b] below meth c H locs cells slots Q (F0 m 1028 ls []) := by
  subst eh
  have hx := X.1.1
  have hb := X.1.2.1
  obtain ⟨r, f1, f2⟩ := st
  refine lv_aload_n hx hb dL_law_1028 rfl (lv_at hl 1 rfl) ?_
  refine r_ci hS (r_runV (As := []) (rest := []) X hS (c_X6_nextBed l hE (D := D) (cI := cI) (cG := cG) (cL := cL) (w := WW cI cG cL adE ad hh o) (ad := ad) (WW_pg hh o) f1) (cwV 0 X.1.2.2.2.2 hL_X6_nextBed rfl rfl rfl (by decide +kernel) ⟨Nat.le_of_ble_eq_true rfl, Nat.le_of_ble_eq_true rfl⟩) (q0 := 0) (ci := 4) rfl ((WW_pg hh o).1 μ).1 rfl hl.1 rfl (Nat.le_of_ble_eq_true rfl) dL_law_1029 ⟨Nat.le_of_lt hc, Nat.le_trans (Nat.le_add_right slots 6) hs⟩) (fun H locs hS => ?_)
  refine lv_aload_n hx hb dL_law_1032 rfl (lv_at hl 2 rfl) ?_
  refine r_ci hS (r_runV (As := []) (rest := [.int r]) X hS (c_X7_nextBed l hE (D := D) (cI := cI) (cG := cG) (cL := cL) (w := WW cI cG cL adE ad hh o) (ad := ad) (WW_model hh o) f2) (cwV 0 X.1.2.2.2.2 hL_X7_nextBed rfl rfl rfl (by decide +kernel) ⟨Nat.le_of_ble_eq_true rfl, Nat.le_of_ble_eq_true rfl⟩) (q0 := 85) (ci := 5) rfl ((WW_model hh o).1 μ).1 rfl hl.1 rfl (Nat.le_of_ble_eq_true rfl) dL_law_1033 ⟨Nat.le_of_lt hc, Nat.le_trans (Nat.le_add_right slots 6) hs⟩) (fun H locs hS => ?_)
  refine lv_icmp_eq (tgt := 1405) hx hb dL_law_1036 (by decide) (fun _ => ?_) (fun cc => absurd rfl cc)
  refine W.widen (k := cells + 1) (n := slots + 6) (Nat.le_succ _) (Nat.le_add_right _ _) ?_
  exact kend o H locs ls hS (lv_sub hl [0, 1, 2, 3, 4] rfl)
def St_16 (a1 a2 : Int32) (μ μ' : Mem) : Prop := (∃ (r : Int32), f_X6_bedsFor 0 a1 μ = some r ∧ f_X7_bedsFor 85 a1 μ = some (r, μ') ∧ f_X7_thrown 85 μ' = some 0) ∨ (f_X6_bedsFor_t 0 a1 μ = some 2 ∧ ∃ r : Int32, f_X7_bedsFor 85 a1 μ = some (r, μ') ∧ f_X7_thrown 85 μ' = some 1) ∨ (f_X6_bedsFor_t 0 a1 μ = some 3 ∧ ∃ r : Int32, f_X7_bedsFor 85 a1 μ = some (r, μ') ∧ f_X7_thrown 85 μ' = some 2)
set_option maxHeartbeats 4000000 in
set_option maxRecDepth 100000 in
theorem k_L_16 (l : Launch) {D : va_G} {cI cG cL : ClassId} {A : Nat → Prop} {tC tS : Nat} {adE adK adV ad : Nat → Nat} (hE : EnOK (ENV tC tS adE adK adV A) A) (hst : l.stackTraces = false) {p : Program} {e : Env} {s : State} {m : MethodId} {below : List Frame} {meth : Method} {c : Code} {b L : Nat} {xs : Nat → Int32} (X : Cx p s m #[.ref b] c cL_law 7 vsL_law RL D (tyl cI cG cL) A (ENV tC tS adE adK adV A)) (hX : va_X b L xs s s.heap) (hbl : b < s.heap.size) (hbA : ¬ A b) {H : Heap} {locs : List Loc} {ls : Array Slot} {hh o : Int64} {μ : Mem} {i : Int32} (hS : HS D A (WW cI cG cL adE ad hh o μ) s.heap H locs) (hl : lv_has ls 7 [(0, .ref b), (1, .ref (ad 0)), (2, .ref (ad 85)), (3, .ref (ad 92)), (4, .int i)]) (h1 : vp_in (i + 1) L) (h2 : vp_in (i + 2) L) {cells slots : Nat} (hc : cells + 1 ≤ 601024) (hs : slots + 6 ≤ 7293034) {Q : State → Prop} {μ' : Mem} {hh' : Int64} (st : St_16 (xs (i + 1).toNatClampNeg) (xs (i + 2).toNatClampNeg) μ μ') (eh : hh = hh') (kend : ∀ (o : Int64) (H : Heap) (locs : List Loc) (ls : Array Slot), HS D A (WW cI cG cL adE ad hh' o μ') s.heap H locs → lv_has ls 7 [(0, .ref b), (1, .ref (ad 0)), (2, .ref (ad 85)), (3, .ref (ad 92)), (4, .int i)] → W p l e room_1 s m #[.ref b] below meth c H locs (cells + 1) (slots + 6) Q (F0 m 1405 ls [])) : W p l e room_1 s m #[.ref b] below meth c H locs cells slots Q (F0 m 1041 ls []) := by
  subst eh
  have hx := X.1.1
  have hb := X.1.2.1
  rcases st with ⟨r, f1, f2, f3⟩ | ⟨f1, r, f2, f3⟩ | ⟨f1, r, f2, f3⟩
  · refine lv_aload_n hx hb dL_law_1041 rfl (lv_at hl 1 rfl) ?_
    refine lv_aload_n hx hb dL_law_1042 rfl (lv_at hl 0 rfl) ?_
    refine lv_iload hx hb dL_law_1043 (lv_at hl 4 rfl) ?_
    refine lv_iconst (v := 1) hx hb dL_law_1045 (by decide) ?_
    refine lv_iadd hx hb dL_law_1046 ?_
    refine va_sld hx hb hX hbl hbA hS.2.2 h1 dL_law_1047 ?_
    refine lv_aload_n hx hb dL_law_1048 rfl (lv_at hl 3 rfl) ?_
    refine r_cim hS (r_runSW (mc := 0) (ms := 0) (As := [.ref (ad 0), .int (xs (i + 1).toNatClampNeg), .ref (ad 92)]) (rest := []) X hS (o_L_bedsFor l hE (D := D) (cI := cI) (cG := cG) (cL := cL) (wo := WW cI cG cL adE ad hh) (ad := ad) (q := 0) (qo := 92) (o := o) (μ := μ) (fun o => WW_pg hh o) (WW_out hh) f1) (vx_cwSW (hh := [(0, 9, 12, 19), (0, 9, 15, 13)]) 3 X.1.2.2.2.2 hL_L_bedsFor rfl rfl rfl (by decide +kernel) ⟨Nat.le_of_ble_eq_true rfl, Nat.le_of_ble_eq_true rfl⟩) rfl hl.1 rfl (Nat.le_of_ble_eq_true rfl) dL_law_1049 ⟨Nat.le_of_lt hc, Nat.le_trans (Nat.le_add_right slots 6) hs⟩) (fun H locs hS => ?_)
    refine lv_istore (lv' := [(5, .int 0), (0, .ref b), (1, .ref (ad 0)), (2, .ref (ad 85)), (3, .ref (ad 92)), (4, .int i)]) hx hb dL_law_1052 hl (by decide) rfl (fun ls hl => ?_)
    refine lv_aload_n hx hb dL_law_1054 rfl (lv_at hl 3 rfl) ?_
    refine lv_aload_n hx hb dL_law_1055 rfl (lv_at hl 1 rfl) ?_
    refine lv_iload hx hb dL_law_1056 (lv_at hl 5 rfl) ?_
    refine lv_iconst (v := 1) hx hb dL_law_1058 (by decide) ?_
    refine lv_iadd hx hb dL_law_1059 ?_
    refine va_sld hx hb hX hbl hbA hS.2.2 h1 dL_law_1060 ?_
    refine r_ci hS (r_runV (As := [.int (xs (i + 1).toNatClampNeg)]) (rest := []) X hS (c_X7_bedsFor l hE (D := D) (cI := cI) (cG := cG) (cL := cL) (w := WW cI cG cL adE ad hh r.toInt64) (ad := ad) (WW_model hh r.toInt64) f2) (cwV 1 X.1.2.2.2.2 hL_X7_bedsFor rfl rfl rfl (by decide +kernel) ⟨Nat.le_of_ble_eq_true rfl, Nat.le_of_ble_eq_true rfl⟩) (q0 := 85) (ci := 5) rfl ((WW_model hh r.toInt64).1 μ).1 rfl hl.1 rfl (Nat.le_of_ble_eq_true rfl) dL_law_1061 ⟨Nat.le_of_lt hc, Nat.le_trans (Nat.le_add_right slots 6) hs⟩) (fun H locs hS => ?_)
    refine lv_istore (lv' := [(6, .int r), (5, .int 0), (0, .ref b), (1, .ref (ad 0)), (2, .ref (ad 85)), (3, .ref (ad 92)), (4, .int i)]) hx hb dL_law_1064 hl (by decide) rfl (fun ls hl => ?_)
    refine lv_aload_n hx hb dL_law_1066 rfl (lv_at hl 4 rfl) ?_
    refine r_ci hS (r_runV (As := []) (rest := []) X hS (c_X7_thrown l hE (D := D) (cI := cI) (cG := cG) (cL := cL) (w := WW cI cG cL adE ad hh r.toInt64) (ad := ad) (WW_model hh r.toInt64) f3) (cwV 0 X.1.2.2.2.2 hL_X7_thrown rfl rfl rfl (by decide +kernel) ⟨Nat.le_of_ble_eq_true rfl, Nat.le_of_ble_eq_true rfl⟩) (q0 := 85) (ci := 5) rfl ((WW_model hh r.toInt64).1 μ').1 rfl hl.1 rfl (Nat.le_of_ble_eq_true rfl) dL_law_1067 ⟨Nat.le_of_lt hc, Nat.le_trans (Nat.le_add_right slots 6) hs⟩) (fun H locs hS => ?_)
    refine lv_iload hx hb dL_law_1070 (lv_at hl 1 rfl) ?_
    refine lv_icmp_eq (tgt := 1077) hx hb dL_law_1072 (by decide) (fun _ => ?_) (fun cc => absurd rfl cc)
    refine lv_iload hx hb dL_law_1077 (lv_at hl 1 rfl) ?_
    refine lv_if_ne (tgt := 1094) hx hb dL_law_1079 (by decide) (fun cc => absurd rfl cc) (fun _ => ?_)
    refine lv_aload_n hx hb dL_law_1082 rfl (lv_at hl 5 rfl) ?_
    refine lv_iconst (v := 0) hx hb dL_law_1083 (by decide) ?_
    refine r_lald X hS (WW_out hh) dL_law_1084 ?_
    refine lv_iload hx hb dL_law_1085 (lv_at hl 0 rfl) ?_
    refine lv_i2l (v := r.toInt64) hx hb dL_law_1087 rfl ?_
    refine W.lcmp hx hb dL_law_1088 ?_
    refine lv_if_eq (tgt := 1094) hx hb dL_law_1089 (by decide) (fun _ => ?_) (fun cc => absurd (lg_self _) cc)
    refine lv_goto (tgt := 1405) hx hb dL_law_1094 (by decide) ?_
    refine W.widen (k := cells + 1) (n := slots + 6) (Nat.le_succ _) (Nat.le_add_right _ _) ?_
    exact kend r.toInt64 H locs ls hS (lv_sub hl [2, 3, 4, 5, 6] rfl)
  · refine lv_aload_n hx hb dL_law_1041 rfl (lv_at hl 1 rfl) ?_
    refine lv_aload_n hx hb dL_law_1042 rfl (lv_at hl 0 rfl) ?_
    refine lv_iload hx hb dL_law_1043 (lv_at hl 4 rfl) ?_
    refine lv_iconst (v := 1) hx hb dL_law_1045 (by decide) ?_
    refine lv_iadd hx hb dL_law_1046 ?_
    refine va_sld hx hb hX hbl hbA hS.2.2 h1 dL_law_1047 ?_
    refine lv_aload_n hx hb dL_law_1048 rfl (lv_at hl 3 rfl) ?_
    refine r_cim hS (r_runSW (mc := 1) (ms := 6) (As := [.ref (ad 0), .int (xs (i + 1).toNatClampNeg), .ref (ad 92)]) (rest := []) X hS (x_L_bedsFor_2 l hE (D := D) (cI := cI) (cG := cG) (cL := cL) (wo := WW cI cG cL adE ad hh) (ad := ad) (q := 0) (qo := 92) (o := o) (μ := μ) (fun o => WW_pg hh o) (WW_out hh) hst f1) (vx_cwSW (hh := [(0, 9, 12, 19), (0, 9, 15, 13)]) 3 X.1.2.2.2.2 hL_L_bedsFor rfl rfl rfl (by decide +kernel) ⟨Nat.le_of_ble_eq_true rfl, Nat.le_of_ble_eq_true rfl⟩) rfl hl.1 rfl (Nat.le_of_ble_eq_true rfl) dL_law_1049 ⟨hc, hs⟩) (fun H locs hS => ?_)
    refine lv_istore (lv' := [(5, .int 1), (0, .ref b), (1, .ref (ad 0)), (2, .ref (ad 85)), (3, .ref (ad 92)), (4, .int i)]) hx hb dL_law_1052 hl (by decide) rfl (fun ls hl => ?_)
    refine lv_aload_n hx hb dL_law_1054 rfl (lv_at hl 3 rfl) ?_
    refine lv_aload_n hx hb dL_law_1055 rfl (lv_at hl 1 rfl) ?_
    refine lv_iload hx hb dL_law_1056 (lv_at hl 5 rfl) ?_
    refine lv_iconst (v := 1) hx hb dL_law_1058 (by decide) ?_
    refine lv_iadd hx hb dL_law_1059 ?_
    refine va_sld hx hb hX hbl hbA hS.2.2 h1 dL_law_1060 ?_
    refine r_ci hS (r_runV (As := [.int (xs (i + 1).toNatClampNeg)]) (rest := []) X hS (c_X7_bedsFor l hE (D := D) (cI := cI) (cG := cG) (cL := cL) (w := WW cI cG cL adE ad hh o) (ad := ad) (WW_model hh o) f2) (cwV 1 X.1.2.2.2.2 hL_X7_bedsFor rfl rfl rfl (by decide +kernel) ⟨Nat.le_of_ble_eq_true rfl, Nat.le_of_ble_eq_true rfl⟩) (q0 := 85) (ci := 5) rfl ((WW_model hh o).1 μ).1 rfl hl.1 rfl (Nat.le_of_ble_eq_true rfl) dL_law_1061 ⟨hc, hs⟩) (fun H locs hS => ?_)
    refine lv_istore (lv' := [(6, .int r), (5, .int 1), (0, .ref b), (1, .ref (ad 0)), (2, .ref (ad 85)), (3, .ref (ad 92)), (4, .int i)]) hx hb dL_law_1064 hl (by decide) rfl (fun ls hl => ?_)
    refine lv_aload_n hx hb dL_law_1066 rfl (lv_at hl 4 rfl) ?_
    refine r_ci hS (r_runV (As := []) (rest := []) X hS (c_X7_thrown l hE (D := D) (cI := cI) (cG := cG) (cL := cL) (w := WW cI cG cL adE ad hh o) (ad := ad) (WW_model hh o) f3) (cwV 0 X.1.2.2.2.2 hL_X7_thrown rfl rfl rfl (by decide +kernel) ⟨Nat.le_of_ble_eq_true rfl, Nat.le_of_ble_eq_true rfl⟩) (q0 := 85) (ci := 5) rfl ((WW_model hh o).1 μ').1 rfl hl.1 rfl (Nat.le_of_ble_eq_true rfl) dL_law_1067 ⟨hc, hs⟩) (fun H locs hS => ?_)
    refine lv_iload hx hb dL_law_1070 (lv_at hl 1 rfl) ?_
    refine lv_icmp_eq (tgt := 1077) hx hb dL_law_1072 (by decide) (fun _ => ?_) (fun cc => absurd rfl cc)
    refine lv_iload hx hb dL_law_1077 (lv_at hl 1 rfl) ?_
    refine lv_if_ne (tgt := 1094) hx hb dL_law_1079 (by decide) (fun _ => ?_) (fun cc => absurd cc (by decide))
    refine lv_goto (tgt := 1405) hx hb dL_law_1094 (by decide) ?_
    exact kend o H locs ls hS (lv_sub hl [2, 3, 4, 5, 6] rfl)
  · refine lv_aload_n hx hb dL_law_1041 rfl (lv_at hl 1 rfl) ?_
    refine lv_aload_n hx hb dL_law_1042 rfl (lv_at hl 0 rfl) ?_
    refine lv_iload hx hb dL_law_1043 (lv_at hl 4 rfl) ?_
    refine lv_iconst (v := 1) hx hb dL_law_1045 (by decide) ?_
    refine lv_iadd hx hb dL_law_1046 ?_
    refine va_sld hx hb hX hbl hbA hS.2.2 h1 dL_law_1047 ?_
    refine lv_aload_n hx hb dL_law_1048 rfl (lv_at hl 3 rfl) ?_
    refine r_cim hS (r_runSW (mc := 1) (ms := 6) (As := [.ref (ad 0), .int (xs (i + 1).toNatClampNeg), .ref (ad 92)]) (rest := []) X hS (x_L_bedsFor_3 l hE (D := D) (cI := cI) (cG := cG) (cL := cL) (wo := WW cI cG cL adE ad hh) (ad := ad) (q := 0) (qo := 92) (o := o) (μ := μ) (fun o => WW_pg hh o) (WW_out hh) hst f1) (vx_cwSW (hh := [(0, 9, 12, 19), (0, 9, 15, 13)]) 3 X.1.2.2.2.2 hL_L_bedsFor rfl rfl rfl (by decide +kernel) ⟨Nat.le_of_ble_eq_true rfl, Nat.le_of_ble_eq_true rfl⟩) rfl hl.1 rfl (Nat.le_of_ble_eq_true rfl) dL_law_1049 ⟨hc, hs⟩) (fun H locs hS => ?_)
    refine lv_istore (lv' := [(5, .int 2), (0, .ref b), (1, .ref (ad 0)), (2, .ref (ad 85)), (3, .ref (ad 92)), (4, .int i)]) hx hb dL_law_1052 hl (by decide) rfl (fun ls hl => ?_)
    refine lv_aload_n hx hb dL_law_1054 rfl (lv_at hl 3 rfl) ?_
    refine lv_aload_n hx hb dL_law_1055 rfl (lv_at hl 1 rfl) ?_
    refine lv_iload hx hb dL_law_1056 (lv_at hl 5 rfl) ?_
    refine lv_iconst (v := 1) hx hb dL_law_1058 (by decide) ?_
    refine lv_iadd hx hb dL_law_1059 ?_
    refine va_sld hx hb hX hbl hbA hS.2.2 h1 dL_law_1060 ?_
    refine r_ci hS (r_runV (As := [.int (xs (i + 1).toNatClampNeg)]) (rest := []) X hS (c_X7_bedsFor l hE (D := D) (cI := cI) (cG := cG) (cL := cL) (w := WW cI cG cL adE ad hh o) (ad := ad) (WW_model hh o) f2) (cwV 1 X.1.2.2.2.2 hL_X7_bedsFor rfl rfl rfl (by decide +kernel) ⟨Nat.le_of_ble_eq_true rfl, Nat.le_of_ble_eq_true rfl⟩) (q0 := 85) (ci := 5) rfl ((WW_model hh o).1 μ).1 rfl hl.1 rfl (Nat.le_of_ble_eq_true rfl) dL_law_1061 ⟨hc, hs⟩) (fun H locs hS => ?_)
    refine lv_istore (lv' := [(6, .int r), (5, .int 2), (0, .ref b), (1, .ref (ad 0)), (2, .ref (ad 85)), (3, .ref (ad 92)), (4, .int i)]) hx hb dL_law_1064 hl (by decide) rfl (fun ls hl => ?_)
    refine lv_aload_n hx hb dL_law_1066 rfl (lv_at hl 4 rfl) ?_
    refine r_ci hS (r_runV (As := []) (rest := []) X hS (c_X7_thrown l hE (D := D) (cI := cI) (cG := cG) (cL := cL) (w := WW cI cG cL adE ad hh o) (ad := ad) (WW_model hh o) f3) (cwV 0 X.1.2.2.2.2 hL_X7_thrown rfl rfl rfl (by decide +kernel) ⟨Nat.le_of_ble_eq_true rfl, Nat.le_of_ble_eq_true rfl⟩) (q0 := 85) (ci := 5) rfl ((WW_model hh o).1 μ').1 rfl hl.1 rfl (Nat.le_of_ble_eq_true rfl) dL_law_1067 ⟨hc, hs⟩) (fun H locs hS => ?_)
    refine lv_iload hx hb dL_law_1070 (lv_at hl 1 rfl) ?_
    refine lv_icmp_eq (tgt := 1077) hx hb dL_law_1072 (by decide) (fun _ => ?_) (fun cc => absurd rfl cc)
    refine lv_iload hx hb dL_law_1077 (lv_at hl 1 rfl) ?_
    refine lv_if_ne (tgt := 1094) hx hb dL_law_1079 (by decide) (fun _ => ?_) (fun cc => absurd cc (by decide))
    refine lv_goto (tgt := 1405) hx hb dL_law_1094 (by decide) ?_
    exact kend o H locs ls hS (lv_sub hl [2, 3, 4, 5, 6] rfl)
def St_17 (a1 a2 : Int32) (μ μ' : Mem) : Prop := (∃ (r : Int32), f_X6_reason 0 a1 μ = some r ∧ f_X7_reason 85 a1 μ = some (r, μ') ∧ f_X7_thrown 85 μ' = some 0) ∨ (f_X6_reason_t 0 a1 μ = some 2 ∧ ∃ r : Int32, f_X7_reason 85 a1 μ = some (r, μ') ∧ f_X7_thrown 85 μ' = some 1) ∨ (f_X6_reason_t 0 a1 μ = some 3 ∧ ∃ r : Int32, f_X7_reason 85 a1 μ = some (r, μ') ∧ f_X7_thrown 85 μ' = some 2)
set_option maxHeartbeats 4000000 in
set_option maxRecDepth 100000 in
theorem k_L_17 (l : Launch) {D : va_G} {cI cG cL : ClassId} {A : Nat → Prop} {tC tS : Nat} {adE adK adV ad : Nat → Nat} (hE : EnOK (ENV tC tS adE adK adV A) A) (hst : l.stackTraces = false) {p : Program} {e : Env} {s : State} {m : MethodId} {below : List Frame} {meth : Method} {c : Code} {b L : Nat} {xs : Nat → Int32} (X : Cx p s m #[.ref b] c cL_law 7 vsL_law RL D (tyl cI cG cL) A (ENV tC tS adE adK adV A)) (hX : va_X b L xs s s.heap) (hbl : b < s.heap.size) (hbA : ¬ A b) {H : Heap} {locs : List Loc} {ls : Array Slot} {hh o : Int64} {μ : Mem} {i : Int32} (hS : HS D A (WW cI cG cL adE ad hh o μ) s.heap H locs) (hl : lv_has ls 7 [(0, .ref b), (1, .ref (ad 0)), (2, .ref (ad 85)), (3, .ref (ad 92)), (4, .int i)]) (h1 : vp_in (i + 1) L) (h2 : vp_in (i + 2) L) {cells slots : Nat} (hc : cells + 1 ≤ 601024) (hs : slots + 6 ≤ 7293034) {Q : State → Prop} {μ' : Mem} {hh' : Int64} (st : St_17 (xs (i + 1).toNatClampNeg) (xs (i + 2).toNatClampNeg) μ μ') (eh : hh = hh') (kend : ∀ (o : Int64) (H : Heap) (locs : List Loc) (ls : Array Slot), HS D A (WW cI cG cL adE ad hh' o μ') s.heap H locs → lv_has ls 7 [(0, .ref b), (1, .ref (ad 0)), (2, .ref (ad 85)), (3, .ref (ad 92)), (4, .int i)] → W p l e room_1 s m #[.ref b] below meth c H locs (cells + 1) (slots + 6) Q (F0 m 1405 ls [])) : W p l e room_1 s m #[.ref b] below meth c H locs cells slots Q (F0 m 1097 ls []) := by
  subst eh
  have hx := X.1.1
  have hb := X.1.2.1
  rcases st with ⟨r, f1, f2, f3⟩ | ⟨f1, r, f2, f3⟩ | ⟨f1, r, f2, f3⟩
  · refine lv_aload_n hx hb dL_law_1097 rfl (lv_at hl 1 rfl) ?_
    refine lv_aload_n hx hb dL_law_1098 rfl (lv_at hl 0 rfl) ?_
    refine lv_iload hx hb dL_law_1099 (lv_at hl 4 rfl) ?_
    refine lv_iconst (v := 1) hx hb dL_law_1101 (by decide) ?_
    refine lv_iadd hx hb dL_law_1102 ?_
    refine va_sld hx hb hX hbl hbA hS.2.2 h1 dL_law_1103 ?_
    refine lv_aload_n hx hb dL_law_1104 rfl (lv_at hl 3 rfl) ?_
    refine r_cim hS (r_runSW (mc := 0) (ms := 0) (As := [.ref (ad 0), .int (xs (i + 1).toNatClampNeg), .ref (ad 92)]) (rest := []) X hS (o_L_reason l hE (D := D) (cI := cI) (cG := cG) (cL := cL) (wo := WW cI cG cL adE ad hh) (ad := ad) (q := 0) (qo := 92) (o := o) (μ := μ) (fun o => WW_pg hh o) (WW_out hh) f1) (vx_cwSW (hh := [(0, 9, 12, 19), (0, 9, 15, 13)]) 3 X.1.2.2.2.2 hL_L_reason rfl rfl rfl (by decide +kernel) ⟨Nat.le_of_ble_eq_true rfl, Nat.le_of_ble_eq_true rfl⟩) rfl hl.1 rfl (Nat.le_of_ble_eq_true rfl) dL_law_1105 ⟨Nat.le_of_lt hc, Nat.le_trans (Nat.le_add_right slots 6) hs⟩) (fun H locs hS => ?_)
    refine lv_istore (lv' := [(5, .int 0), (0, .ref b), (1, .ref (ad 0)), (2, .ref (ad 85)), (3, .ref (ad 92)), (4, .int i)]) hx hb dL_law_1108 hl (by decide) rfl (fun ls hl => ?_)
    refine lv_aload_n hx hb dL_law_1110 rfl (lv_at hl 3 rfl) ?_
    refine lv_aload_n hx hb dL_law_1111 rfl (lv_at hl 1 rfl) ?_
    refine lv_iload hx hb dL_law_1112 (lv_at hl 5 rfl) ?_
    refine lv_iconst (v := 1) hx hb dL_law_1114 (by decide) ?_
    refine lv_iadd hx hb dL_law_1115 ?_
    refine va_sld hx hb hX hbl hbA hS.2.2 h1 dL_law_1116 ?_
    refine r_ci hS (r_runV (As := [.int (xs (i + 1).toNatClampNeg)]) (rest := []) X hS (c_X7_reason l hE (D := D) (cI := cI) (cG := cG) (cL := cL) (w := WW cI cG cL adE ad hh r.toInt64) (ad := ad) (WW_model hh r.toInt64) f2) (cwV 1 X.1.2.2.2.2 hL_X7_reason rfl rfl rfl (by decide +kernel) ⟨Nat.le_of_ble_eq_true rfl, Nat.le_of_ble_eq_true rfl⟩) (q0 := 85) (ci := 5) rfl ((WW_model hh r.toInt64).1 μ).1 rfl hl.1 rfl (Nat.le_of_ble_eq_true rfl) dL_law_1117 ⟨Nat.le_of_lt hc, Nat.le_trans (Nat.le_add_right slots 6) hs⟩) (fun H locs hS => ?_)
    refine lv_istore (lv' := [(6, .int r), (5, .int 0), (0, .ref b), (1, .ref (ad 0)), (2, .ref (ad 85)), (3, .ref (ad 92)), (4, .int i)]) hx hb dL_law_1120 hl (by decide) rfl (fun ls hl => ?_)
    refine lv_aload_n hx hb dL_law_1122 rfl (lv_at hl 4 rfl) ?_
    refine r_ci hS (r_runV (As := []) (rest := []) X hS (c_X7_thrown l hE (D := D) (cI := cI) (cG := cG) (cL := cL) (w := WW cI cG cL adE ad hh r.toInt64) (ad := ad) (WW_model hh r.toInt64) f3) (cwV 0 X.1.2.2.2.2 hL_X7_thrown rfl rfl rfl (by decide +kernel) ⟨Nat.le_of_ble_eq_true rfl, Nat.le_of_ble_eq_true rfl⟩) (q0 := 85) (ci := 5) rfl ((WW_model hh r.toInt64).1 μ').1 rfl hl.1 rfl (Nat.le_of_ble_eq_true rfl) dL_law_1123 ⟨Nat.le_of_lt hc, Nat.le_trans (Nat.le_add_right slots 6) hs⟩) (fun H locs hS => ?_)
    refine lv_iload hx hb dL_law_1126 (lv_at hl 1 rfl) ?_
    refine lv_icmp_eq (tgt := 1133) hx hb dL_law_1128 (by decide) (fun _ => ?_) (fun cc => absurd rfl cc)
    refine lv_iload hx hb dL_law_1133 (lv_at hl 1 rfl) ?_
    refine lv_if_ne (tgt := 1150) hx hb dL_law_1135 (by decide) (fun cc => absurd rfl cc) (fun _ => ?_)
    refine lv_aload_n hx hb dL_law_1138 rfl (lv_at hl 5 rfl) ?_
    refine lv_iconst (v := 0) hx hb dL_law_1139 (by decide) ?_
    refine r_lald X hS (WW_out hh) dL_law_1140 ?_
    refine lv_iload hx hb dL_law_1141 (lv_at hl 0 rfl) ?_
    refine lv_i2l (v := r.toInt64) hx hb dL_law_1143 rfl ?_
    refine W.lcmp hx hb dL_law_1144 ?_
    refine lv_if_eq (tgt := 1150) hx hb dL_law_1145 (by decide) (fun _ => ?_) (fun cc => absurd (lg_self _) cc)
    refine lv_goto (tgt := 1405) hx hb dL_law_1150 (by decide) ?_
    refine W.widen (k := cells + 1) (n := slots + 6) (Nat.le_succ _) (Nat.le_add_right _ _) ?_
    exact kend r.toInt64 H locs ls hS (lv_sub hl [2, 3, 4, 5, 6] rfl)
  · refine lv_aload_n hx hb dL_law_1097 rfl (lv_at hl 1 rfl) ?_
    refine lv_aload_n hx hb dL_law_1098 rfl (lv_at hl 0 rfl) ?_
    refine lv_iload hx hb dL_law_1099 (lv_at hl 4 rfl) ?_
    refine lv_iconst (v := 1) hx hb dL_law_1101 (by decide) ?_
    refine lv_iadd hx hb dL_law_1102 ?_
    refine va_sld hx hb hX hbl hbA hS.2.2 h1 dL_law_1103 ?_
    refine lv_aload_n hx hb dL_law_1104 rfl (lv_at hl 3 rfl) ?_
    refine r_cim hS (r_runSW (mc := 1) (ms := 6) (As := [.ref (ad 0), .int (xs (i + 1).toNatClampNeg), .ref (ad 92)]) (rest := []) X hS (x_L_reason_2 l hE (D := D) (cI := cI) (cG := cG) (cL := cL) (wo := WW cI cG cL adE ad hh) (ad := ad) (q := 0) (qo := 92) (o := o) (μ := μ) (fun o => WW_pg hh o) (WW_out hh) hst f1) (vx_cwSW (hh := [(0, 9, 12, 19), (0, 9, 15, 13)]) 3 X.1.2.2.2.2 hL_L_reason rfl rfl rfl (by decide +kernel) ⟨Nat.le_of_ble_eq_true rfl, Nat.le_of_ble_eq_true rfl⟩) rfl hl.1 rfl (Nat.le_of_ble_eq_true rfl) dL_law_1105 ⟨hc, hs⟩) (fun H locs hS => ?_)
    refine lv_istore (lv' := [(5, .int 1), (0, .ref b), (1, .ref (ad 0)), (2, .ref (ad 85)), (3, .ref (ad 92)), (4, .int i)]) hx hb dL_law_1108 hl (by decide) rfl (fun ls hl => ?_)
    refine lv_aload_n hx hb dL_law_1110 rfl (lv_at hl 3 rfl) ?_
    refine lv_aload_n hx hb dL_law_1111 rfl (lv_at hl 1 rfl) ?_
    refine lv_iload hx hb dL_law_1112 (lv_at hl 5 rfl) ?_
    refine lv_iconst (v := 1) hx hb dL_law_1114 (by decide) ?_
    refine lv_iadd hx hb dL_law_1115 ?_
    refine va_sld hx hb hX hbl hbA hS.2.2 h1 dL_law_1116 ?_
    refine r_ci hS (r_runV (As := [.int (xs (i + 1).toNatClampNeg)]) (rest := []) X hS (c_X7_reason l hE (D := D) (cI := cI) (cG := cG) (cL := cL) (w := WW cI cG cL adE ad hh o) (ad := ad) (WW_model hh o) f2) (cwV 1 X.1.2.2.2.2 hL_X7_reason rfl rfl rfl (by decide +kernel) ⟨Nat.le_of_ble_eq_true rfl, Nat.le_of_ble_eq_true rfl⟩) (q0 := 85) (ci := 5) rfl ((WW_model hh o).1 μ).1 rfl hl.1 rfl (Nat.le_of_ble_eq_true rfl) dL_law_1117 ⟨hc, hs⟩) (fun H locs hS => ?_)
    refine lv_istore (lv' := [(6, .int r), (5, .int 1), (0, .ref b), (1, .ref (ad 0)), (2, .ref (ad 85)), (3, .ref (ad 92)), (4, .int i)]) hx hb dL_law_1120 hl (by decide) rfl (fun ls hl => ?_)
    refine lv_aload_n hx hb dL_law_1122 rfl (lv_at hl 4 rfl) ?_
    refine r_ci hS (r_runV (As := []) (rest := []) X hS (c_X7_thrown l hE (D := D) (cI := cI) (cG := cG) (cL := cL) (w := WW cI cG cL adE ad hh o) (ad := ad) (WW_model hh o) f3) (cwV 0 X.1.2.2.2.2 hL_X7_thrown rfl rfl rfl (by decide +kernel) ⟨Nat.le_of_ble_eq_true rfl, Nat.le_of_ble_eq_true rfl⟩) (q0 := 85) (ci := 5) rfl ((WW_model hh o).1 μ').1 rfl hl.1 rfl (Nat.le_of_ble_eq_true rfl) dL_law_1123 ⟨hc, hs⟩) (fun H locs hS => ?_)
    refine lv_iload hx hb dL_law_1126 (lv_at hl 1 rfl) ?_
    refine lv_icmp_eq (tgt := 1133) hx hb dL_law_1128 (by decide) (fun _ => ?_) (fun cc => absurd rfl cc)
    refine lv_iload hx hb dL_law_1133 (lv_at hl 1 rfl) ?_
    refine lv_if_ne (tgt := 1150) hx hb dL_law_1135 (by decide) (fun _ => ?_) (fun cc => absurd cc (by decide))
    refine lv_goto (tgt := 1405) hx hb dL_law_1150 (by decide) ?_
    exact kend o H locs ls hS (lv_sub hl [2, 3, 4, 5, 6] rfl)
  · refine lv_aload_n hx hb dL_law_1097 rfl (lv_at hl 1 rfl) ?_
    refine lv_aload_n hx hb dL_law_1098 rfl (lv_at hl 0 rfl) ?_
    refine lv_iload hx hb dL_law_1099 (lv_at hl 4 rfl) ?_
    refine lv_iconst (v := 1) hx hb dL_law_1101 (by decide) ?_
    refine lv_iadd hx hb dL_law_1102 ?_
    refine va_sld hx hb hX hbl hbA hS.2.2 h1 dL_law_1103 ?_
    refine lv_aload_n hx hb dL_law_1104 rfl (lv_at hl 3 rfl) ?_
    refine r_cim hS (r_runSW (mc := 1) (ms := 6) (As := [.ref (ad 0), .int (xs (i + 1).toNatClampNeg), .ref (ad 92)]) (rest := []) X hS (x_L_reason_3 l hE (D := D) (cI := cI) (cG := cG) (cL := cL) (wo := WW cI cG cL adE ad hh) (ad := ad) (q := 0) (qo := 92) (o := o) (μ := μ) (fun o => WW_pg hh o) (WW_out hh) hst f1) (vx_cwSW (hh := [(0, 9, 12, 19), (0, 9, 15, 13)]) 3 X.1.2.2.2.2 hL_L_reason rfl rfl rfl (by decide +kernel) ⟨Nat.le_of_ble_eq_true rfl, Nat.le_of_ble_eq_true rfl⟩) rfl hl.1 rfl (Nat.le_of_ble_eq_true rfl) dL_law_1105 ⟨hc, hs⟩) (fun H locs hS => ?_)
    refine lv_istore (lv' := [(5, .int 2), (0, .ref b), (1, .ref (ad 0)), (2, .ref (ad 85)), (3, .ref (ad 92)), (4, .int i)]) hx hb dL_law_1108 hl (by decide) rfl (fun ls hl => ?_)
    refine lv_aload_n hx hb dL_law_1110 rfl (lv_at hl 3 rfl) ?_
    refine lv_aload_n hx hb dL_law_1111 rfl (lv_at hl 1 rfl) ?_
    refine lv_iload hx hb dL_law_1112 (lv_at hl 5 rfl) ?_
    refine lv_iconst (v := 1) hx hb dL_law_1114 (by decide) ?_
    refine lv_iadd hx hb dL_law_1115 ?_
    refine va_sld hx hb hX hbl hbA hS.2.2 h1 dL_law_1116 ?_
    refine r_ci hS (r_runV (As := [.int (xs (i + 1).toNatClampNeg)]) (rest := []) X hS (c_X7_reason l hE (D := D) (cI := cI) (cG := cG) (cL := cL) (w := WW cI cG cL adE ad hh o) (ad := ad) (WW_model hh o) f2) (cwV 1 X.1.2.2.2.2 hL_X7_reason rfl rfl rfl (by decide +kernel) ⟨Nat.le_of_ble_eq_true rfl, Nat.le_of_ble_eq_true rfl⟩) (q0 := 85) (ci := 5) rfl ((WW_model hh o).1 μ).1 rfl hl.1 rfl (Nat.le_of_ble_eq_true rfl) dL_law_1117 ⟨hc, hs⟩) (fun H locs hS => ?_)
    refine lv_istore (lv' := [(6, .int r), (5, .int 2), (0, .ref b), (1, .ref (ad 0)), (2, .ref (ad 85)), (3, .ref (ad 92)), (4, .int i)]) hx hb dL_law_1120 hl (by decide) rfl (fun ls hl => ?_)
    refine lv_aload_n hx hb dL_law_1122 rfl (lv_at hl 4 rfl) ?_
    refine r_ci hS (r_runV (As := []) (rest := []) X hS (c_X7_thrown l hE (D := D) (cI := cI) (cG := cG) (cL := cL) (w := WW cI cG cL adE ad hh o) (ad := ad) (WW_model hh o) f3) (cwV 0 X.1.2.2.2.2 hL_X7_thrown rfl rfl rfl (by decide +kernel) ⟨Nat.le_of_ble_eq_true rfl, Nat.le_of_ble_eq_true rfl⟩) (q0 := 85) (ci := 5) rfl ((WW_model hh o).1 μ').1 rfl hl.1 rfl (Nat.le_of_ble_eq_true rfl) dL_law_1123 ⟨hc, hs⟩) (fun H locs hS => ?_)
    refine lv_iload hx hb dL_law_1126 (lv_at hl 1 rfl) ?_
    refine lv_icmp_eq (tgt := 1133) hx hb dL_law_1128 (by decide) (fun _ => ?_) (fun cc => absurd rfl cc)
    refine lv_iload hx hb dL_law_1133 (lv_at hl 1 rfl) ?_
    refine lv_if_ne (tgt := 1150) hx hb dL_law_1135 (by decide) (fun _ => ?_) (fun cc => absurd cc (by decide))
    refine lv_goto (tgt := 1405) hx hb dL_law_1150 (by decide) ?_
    exact kend o H locs ls hS (lv_sub hl [2, 3, 4, 5, 6] rfl)
def St_18 (a1 a2 : Int32) (μ μ' : Mem) : Prop := (∃ (r : Int32), f_X6_neededWithout 0 a1 μ = some r ∧ f_X7_neededWithout 85 a1 μ = some (r, μ') ∧ f_X7_thrown 85 μ' = some 0) ∨ (f_X6_neededWithout_t 0 a1 μ = some 1 ∧ ∃ r : Int32, f_X7_neededWithout 85 a1 μ = some (r, μ') ∧ f_X7_thrown 85 μ' = some 1) ∨ (f_X6_neededWithout_t 0 a1 μ = some 3 ∧ ∃ r : Int32, f_X7_neededWithout 85 a1 μ = some (r, μ') ∧ f_X7_thrown 85 μ' = some 2)
set_option maxHeartbeats 4000000 in
set_option maxRecDepth 100000 in
theorem k_L_18 (l : Launch) {D : va_G} {cI cG cL : ClassId} {A : Nat → Prop} {tC tS : Nat} {adE adK adV ad : Nat → Nat} (hE : EnOK (ENV tC tS adE adK adV A) A) (hst : l.stackTraces = false) {p : Program} {e : Env} {s : State} {m : MethodId} {below : List Frame} {meth : Method} {c : Code} {b L : Nat} {xs : Nat → Int32} (X : Cx p s m #[.ref b] c cL_law 7 vsL_law RL D (tyl cI cG cL) A (ENV tC tS adE adK adV A)) (hX : va_X b L xs s s.heap) (hbl : b < s.heap.size) (hbA : ¬ A b) {H : Heap} {locs : List Loc} {ls : Array Slot} {hh o : Int64} {μ : Mem} {i : Int32} (hS : HS D A (WW cI cG cL adE ad hh o μ) s.heap H locs) (hl : lv_has ls 7 [(0, .ref b), (1, .ref (ad 0)), (2, .ref (ad 85)), (3, .ref (ad 92)), (4, .int i)]) (h1 : vp_in (i + 1) L) (h2 : vp_in (i + 2) L) {cells slots : Nat} (hc : cells + 1 ≤ 601024) (hs : slots + 6 ≤ 7293034) {Q : State → Prop} {μ' : Mem} {hh' : Int64} (st : St_18 (xs (i + 1).toNatClampNeg) (xs (i + 2).toNatClampNeg) μ μ') (eh : hh = hh') (kend : ∀ (o : Int64) (H : Heap) (locs : List Loc) (ls : Array Slot), HS D A (WW cI cG cL adE ad hh' o μ') s.heap H locs → lv_has ls 7 [(0, .ref b), (1, .ref (ad 0)), (2, .ref (ad 85)), (3, .ref (ad 92)), (4, .int i)] → W p l e room_1 s m #[.ref b] below meth c H locs (cells + 1) (slots + 6) Q (F0 m 1405 ls [])) : W p l e room_1 s m #[.ref b] below meth c H locs cells slots Q (F0 m 1153 ls []) := by
  subst eh
  have hx := X.1.1
  have hb := X.1.2.1
  rcases st with ⟨r, f1, f2, f3⟩ | ⟨f1, r, f2, f3⟩ | ⟨f1, r, f2, f3⟩
  · refine lv_aload_n hx hb dL_law_1153 rfl (lv_at hl 1 rfl) ?_
    refine lv_aload_n hx hb dL_law_1154 rfl (lv_at hl 0 rfl) ?_
    refine lv_iload hx hb dL_law_1155 (lv_at hl 4 rfl) ?_
    refine lv_iconst (v := 1) hx hb dL_law_1157 (by decide) ?_
    refine lv_iadd hx hb dL_law_1158 ?_
    refine va_sld hx hb hX hbl hbA hS.2.2 h1 dL_law_1159 ?_
    refine lv_aload_n hx hb dL_law_1160 rfl (lv_at hl 3 rfl) ?_
    refine r_cim hS (r_runSW (mc := 0) (ms := 0) (As := [.ref (ad 0), .int (xs (i + 1).toNatClampNeg), .ref (ad 92)]) (rest := []) X hS (o_L_neededWithout l hE (D := D) (cI := cI) (cG := cG) (cL := cL) (wo := WW cI cG cL adE ad hh) (ad := ad) (q := 0) (qo := 92) (o := o) (μ := μ) (fun o => WW_pg hh o) (WW_out hh) f1) (vx_cwSW (hh := [(0, 9, 12, 37), (0, 9, 15, 13)]) 3 X.1.2.2.2.2 hL_L_neededWithout rfl rfl rfl (by decide +kernel) ⟨Nat.le_of_ble_eq_true rfl, Nat.le_of_ble_eq_true rfl⟩) rfl hl.1 rfl (Nat.le_of_ble_eq_true rfl) dL_law_1161 ⟨Nat.le_of_lt hc, Nat.le_trans (Nat.le_add_right slots 6) hs⟩) (fun H locs hS => ?_)
    refine lv_istore (lv' := [(5, .int 0), (0, .ref b), (1, .ref (ad 0)), (2, .ref (ad 85)), (3, .ref (ad 92)), (4, .int i)]) hx hb dL_law_1164 hl (by decide) rfl (fun ls hl => ?_)
    refine lv_aload_n hx hb dL_law_1166 rfl (lv_at hl 3 rfl) ?_
    refine lv_aload_n hx hb dL_law_1167 rfl (lv_at hl 1 rfl) ?_
    refine lv_iload hx hb dL_law_1168 (lv_at hl 5 rfl) ?_
    refine lv_iconst (v := 1) hx hb dL_law_1170 (by decide) ?_
    refine lv_iadd hx hb dL_law_1171 ?_
    refine va_sld hx hb hX hbl hbA hS.2.2 h1 dL_law_1172 ?_
    refine r_ci hS (r_runV (As := [.int (xs (i + 1).toNatClampNeg)]) (rest := []) X hS (c_X7_neededWithout l hE (D := D) (cI := cI) (cG := cG) (cL := cL) (w := WW cI cG cL adE ad hh r.toInt64) (ad := ad) (WW_model hh r.toInt64) f2) (cwV 1 X.1.2.2.2.2 hL_X7_neededWithout rfl rfl rfl (by decide +kernel) ⟨Nat.le_of_ble_eq_true rfl, Nat.le_of_ble_eq_true rfl⟩) (q0 := 85) (ci := 5) rfl ((WW_model hh r.toInt64).1 μ).1 rfl hl.1 rfl (Nat.le_of_ble_eq_true rfl) dL_law_1173 ⟨Nat.le_of_lt hc, Nat.le_trans (Nat.le_add_right slots 6) hs⟩) (fun H locs hS => ?_)
    refine lv_istore (lv' := [(6, .int r), (5, .int 0), (0, .ref b), (1, .ref (ad 0)), (2, .ref (ad 85)), (3, .ref (ad 92)), (4, .int i)]) hx hb dL_law_1176 hl (by decide) rfl (fun ls hl => ?_)
    refine lv_aload_n hx hb dL_law_1178 rfl (lv_at hl 4 rfl) ?_
    refine r_ci hS (r_runV (As := []) (rest := []) X hS (c_X7_thrown l hE (D := D) (cI := cI) (cG := cG) (cL := cL) (w := WW cI cG cL adE ad hh r.toInt64) (ad := ad) (WW_model hh r.toInt64) f3) (cwV 0 X.1.2.2.2.2 hL_X7_thrown rfl rfl rfl (by decide +kernel) ⟨Nat.le_of_ble_eq_true rfl, Nat.le_of_ble_eq_true rfl⟩) (q0 := 85) (ci := 5) rfl ((WW_model hh r.toInt64).1 μ').1 rfl hl.1 rfl (Nat.le_of_ble_eq_true rfl) dL_law_1179 ⟨Nat.le_of_lt hc, Nat.le_trans (Nat.le_add_right slots 6) hs⟩) (fun H locs hS => ?_)
    refine lv_iload hx hb dL_law_1182 (lv_at hl 1 rfl) ?_
    refine lv_icmp_eq (tgt := 1189) hx hb dL_law_1184 (by decide) (fun _ => ?_) (fun cc => absurd rfl cc)
    refine lv_iload hx hb dL_law_1189 (lv_at hl 1 rfl) ?_
    refine lv_if_ne (tgt := 1206) hx hb dL_law_1191 (by decide) (fun cc => absurd rfl cc) (fun _ => ?_)
    refine lv_aload_n hx hb dL_law_1194 rfl (lv_at hl 5 rfl) ?_
    refine lv_iconst (v := 0) hx hb dL_law_1195 (by decide) ?_
    refine r_lald X hS (WW_out hh) dL_law_1196 ?_
    refine lv_iload hx hb dL_law_1197 (lv_at hl 0 rfl) ?_
    refine lv_i2l (v := r.toInt64) hx hb dL_law_1199 rfl ?_
    refine W.lcmp hx hb dL_law_1200 ?_
    refine lv_if_eq (tgt := 1206) hx hb dL_law_1201 (by decide) (fun _ => ?_) (fun cc => absurd (lg_self _) cc)
    refine lv_goto (tgt := 1405) hx hb dL_law_1206 (by decide) ?_
    refine W.widen (k := cells + 1) (n := slots + 6) (Nat.le_succ _) (Nat.le_add_right _ _) ?_
    exact kend r.toInt64 H locs ls hS (lv_sub hl [2, 3, 4, 5, 6] rfl)
  · refine lv_aload_n hx hb dL_law_1153 rfl (lv_at hl 1 rfl) ?_
    refine lv_aload_n hx hb dL_law_1154 rfl (lv_at hl 0 rfl) ?_
    refine lv_iload hx hb dL_law_1155 (lv_at hl 4 rfl) ?_
    refine lv_iconst (v := 1) hx hb dL_law_1157 (by decide) ?_
    refine lv_iadd hx hb dL_law_1158 ?_
    refine va_sld hx hb hX hbl hbA hS.2.2 h1 dL_law_1159 ?_
    refine lv_aload_n hx hb dL_law_1160 rfl (lv_at hl 3 rfl) ?_
    refine r_cim hS (r_runSW (mc := 1) (ms := 6) (As := [.ref (ad 0), .int (xs (i + 1).toNatClampNeg), .ref (ad 92)]) (rest := []) X hS (x_L_neededWithout_1 l hE (D := D) (cI := cI) (cG := cG) (cL := cL) (wo := WW cI cG cL adE ad hh) (ad := ad) (q := 0) (qo := 92) (o := o) (μ := μ) (fun o => WW_pg hh o) (WW_out hh) hst f1) (vx_cwSW (hh := [(0, 9, 12, 37), (0, 9, 15, 13)]) 3 X.1.2.2.2.2 hL_L_neededWithout rfl rfl rfl (by decide +kernel) ⟨Nat.le_of_ble_eq_true rfl, Nat.le_of_ble_eq_true rfl⟩) rfl hl.1 rfl (Nat.le_of_ble_eq_true rfl) dL_law_1161 ⟨hc, hs⟩) (fun H locs hS => ?_)
    refine lv_istore (lv' := [(5, .int 1), (0, .ref b), (1, .ref (ad 0)), (2, .ref (ad 85)), (3, .ref (ad 92)), (4, .int i)]) hx hb dL_law_1164 hl (by decide) rfl (fun ls hl => ?_)
    refine lv_aload_n hx hb dL_law_1166 rfl (lv_at hl 3 rfl) ?_
    refine lv_aload_n hx hb dL_law_1167 rfl (lv_at hl 1 rfl) ?_
    refine lv_iload hx hb dL_law_1168 (lv_at hl 5 rfl) ?_
    refine lv_iconst (v := 1) hx hb dL_law_1170 (by decide) ?_
    refine lv_iadd hx hb dL_law_1171 ?_
    refine va_sld hx hb hX hbl hbA hS.2.2 h1 dL_law_1172 ?_
    refine r_ci hS (r_runV (As := [.int (xs (i + 1).toNatClampNeg)]) (rest := []) X hS (c_X7_neededWithout l hE (D := D) (cI := cI) (cG := cG) (cL := cL) (w := WW cI cG cL adE ad hh o) (ad := ad) (WW_model hh o) f2) (cwV 1 X.1.2.2.2.2 hL_X7_neededWithout rfl rfl rfl (by decide +kernel) ⟨Nat.le_of_ble_eq_true rfl, Nat.le_of_ble_eq_true rfl⟩) (q0 := 85) (ci := 5) rfl ((WW_model hh o).1 μ).1 rfl hl.1 rfl (Nat.le_of_ble_eq_true rfl) dL_law_1173 ⟨hc, hs⟩) (fun H locs hS => ?_)
    refine lv_istore (lv' := [(6, .int r), (5, .int 1), (0, .ref b), (1, .ref (ad 0)), (2, .ref (ad 85)), (3, .ref (ad 92)), (4, .int i)]) hx hb dL_law_1176 hl (by decide) rfl (fun ls hl => ?_)
    refine lv_aload_n hx hb dL_law_1178 rfl (lv_at hl 4 rfl) ?_
    refine r_ci hS (r_runV (As := []) (rest := []) X hS (c_X7_thrown l hE (D := D) (cI := cI) (cG := cG) (cL := cL) (w := WW cI cG cL adE ad hh o) (ad := ad) (WW_model hh o) f3) (cwV 0 X.1.2.2.2.2 hL_X7_thrown rfl rfl rfl (by decide +kernel) ⟨Nat.le_of_ble_eq_true rfl, Nat.le_of_ble_eq_true rfl⟩) (q0 := 85) (ci := 5) rfl ((WW_model hh o).1 μ').1 rfl hl.1 rfl (Nat.le_of_ble_eq_true rfl) dL_law_1179 ⟨hc, hs⟩) (fun H locs hS => ?_)
    refine lv_iload hx hb dL_law_1182 (lv_at hl 1 rfl) ?_
    refine lv_icmp_eq (tgt := 1189) hx hb dL_law_1184 (by decide) (fun _ => ?_) (fun cc => absurd rfl cc)
    refine lv_iload hx hb dL_law_1189 (lv_at hl 1 rfl) ?_
    refine lv_if_ne (tgt := 1206) hx hb dL_law_1191 (by decide) (fun _ => ?_) (fun cc => absurd cc (by decide))
    refine lv_goto (tgt := 1405) hx hb dL_law_1206 (by decide) ?_
    exact kend o H locs ls hS (lv_sub hl [2, 3, 4, 5, 6] rfl)
  · refine lv_aload_n hx hb dL_law_1153 rfl (lv_at hl 1 rfl) ?_
    refine lv_aload_n hx hb dL_law_1154 rfl (lv_at hl 0 rfl) ?_
    refine lv_iload hx hb dL_law_1155 (lv_at hl 4 rfl) ?_
    refine lv_iconst (v := 1) hx hb dL_law_1157 (by decide) ?_
    refine lv_iadd hx hb dL_law_1158 ?_
    refine va_sld hx hb hX hbl hbA hS.2.2 h1 dL_law_1159 ?_
    refine lv_aload_n hx hb dL_law_1160 rfl (lv_at hl 3 rfl) ?_
    refine r_cim hS (r_runSW (mc := 1) (ms := 6) (As := [.ref (ad 0), .int (xs (i + 1).toNatClampNeg), .ref (ad 92)]) (rest := []) X hS (x_L_neededWithout_3 l hE (D := D) (cI := cI) (cG := cG) (cL := cL) (wo := WW cI cG cL adE ad hh) (ad := ad) (q := 0) (qo := 92) (o := o) (μ := μ) (fun o => WW_pg hh o) (WW_out hh) hst f1) (vx_cwSW (hh := [(0, 9, 12, 37), (0, 9, 15, 13)]) 3 X.1.2.2.2.2 hL_L_neededWithout rfl rfl rfl (by decide +kernel) ⟨Nat.le_of_ble_eq_true rfl, Nat.le_of_ble_eq_true rfl⟩) rfl hl.1 rfl (Nat.le_of_ble_eq_true rfl) dL_law_1161 ⟨hc, hs⟩) (fun H locs hS => ?_)
    refine lv_istore (lv' := [(5, .int 2), (0, .ref b), (1, .ref (ad 0)), (2, .ref (ad 85)), (3, .ref (ad 92)), (4, .int i)]) hx hb dL_law_1164 hl (by decide) rfl (fun ls hl => ?_)
    refine lv_aload_n hx hb dL_law_1166 rfl (lv_at hl 3 rfl) ?_
    refine lv_aload_n hx hb dL_law_1167 rfl (lv_at hl 1 rfl) ?_
    refine lv_iload hx hb dL_law_1168 (lv_at hl 5 rfl) ?_
    refine lv_iconst (v := 1) hx hb dL_law_1170 (by decide) ?_
    refine lv_iadd hx hb dL_law_1171 ?_
    refine va_sld hx hb hX hbl hbA hS.2.2 h1 dL_law_1172 ?_
    refine r_ci hS (r_runV (As := [.int (xs (i + 1).toNatClampNeg)]) (rest := []) X hS (c_X7_neededWithout l hE (D := D) (cI := cI) (cG := cG) (cL := cL) (w := WW cI cG cL adE ad hh o) (ad := ad) (WW_model hh o) f2) (cwV 1 X.1.2.2.2.2 hL_X7_neededWithout rfl rfl rfl (by decide +kernel) ⟨Nat.le_of_ble_eq_true rfl, Nat.le_of_ble_eq_true rfl⟩) (q0 := 85) (ci := 5) rfl ((WW_model hh o).1 μ).1 rfl hl.1 rfl (Nat.le_of_ble_eq_true rfl) dL_law_1173 ⟨hc, hs⟩) (fun H locs hS => ?_)
    refine lv_istore (lv' := [(6, .int r), (5, .int 2), (0, .ref b), (1, .ref (ad 0)), (2, .ref (ad 85)), (3, .ref (ad 92)), (4, .int i)]) hx hb dL_law_1176 hl (by decide) rfl (fun ls hl => ?_)
    refine lv_aload_n hx hb dL_law_1178 rfl (lv_at hl 4 rfl) ?_
    refine r_ci hS (r_runV (As := []) (rest := []) X hS (c_X7_thrown l hE (D := D) (cI := cI) (cG := cG) (cL := cL) (w := WW cI cG cL adE ad hh o) (ad := ad) (WW_model hh o) f3) (cwV 0 X.1.2.2.2.2 hL_X7_thrown rfl rfl rfl (by decide +kernel) ⟨Nat.le_of_ble_eq_true rfl, Nat.le_of_ble_eq_true rfl⟩) (q0 := 85) (ci := 5) rfl ((WW_model hh o).1 μ').1 rfl hl.1 rfl (Nat.le_of_ble_eq_true rfl) dL_law_1179 ⟨hc, hs⟩) (fun H locs hS => ?_)
    refine lv_iload hx hb dL_law_1182 (lv_at hl 1 rfl) ?_
    refine lv_icmp_eq (tgt := 1189) hx hb dL_law_1184 (by decide) (fun _ => ?_) (fun cc => absurd rfl cc)
    refine lv_iload hx hb dL_law_1189 (lv_at hl 1 rfl) ?_
    refine lv_if_ne (tgt := 1206) hx hb dL_law_1191 (by decide) (fun _ => ?_) (fun cc => absurd cc (by decide))
    refine lv_goto (tgt := 1405) hx hb dL_law_1206 (by decide) ?_
    exact kend o H locs ls hS (lv_sub hl [2, 3, 4, 5, 6] rfl)
def St_19 (a1 a2 : Int32) (μ μ' : Mem) : Prop := (∃ (r : Int32), f_X6_changedSince 0 a1 μ = some r ∧ f_X7_changedSince 85 a1 μ = some (r, μ') ∧ f_X7_thrown 85 μ' = some 0) ∨ (f_X6_changedSince_t 0 a1 μ = some 1 ∧ ∃ r : Int32, f_X7_changedSince 85 a1 μ = some (r, μ') ∧ f_X7_thrown 85 μ' = some 1) ∨ (f_X6_changedSince_t 0 a1 μ = some 3 ∧ ∃ r : Int32, f_X7_changedSince 85 a1 μ = some (r, μ') ∧ f_X7_thrown 85 μ' = some 2)
set_option maxHeartbeats 4000000 in
set_option maxRecDepth 100000 in
theorem k_L_19 (l : Launch) {D : va_G} {cI cG cL : ClassId} {A : Nat → Prop} {tC tS : Nat} {adE adK adV ad : Nat → Nat} (hE : EnOK (ENV tC tS adE adK adV A) A) (hst : l.stackTraces = false) {p : Program} {e : Env} {s : State} {m : MethodId} {below : List Frame} {meth : Method} {c : Code} {b L : Nat} {xs : Nat → Int32} (X : Cx p s m #[.ref b] c cL_law 7 vsL_law RL D (tyl cI cG cL) A (ENV tC tS adE adK adV A)) (hX : va_X b L xs s s.heap) (hbl : b < s.heap.size) (hbA : ¬ A b) {H : Heap} {locs : List Loc} {ls : Array Slot} {hh o : Int64} {μ : Mem} {i : Int32} (hS : HS D A (WW cI cG cL adE ad hh o μ) s.heap H locs) (hl : lv_has ls 7 [(0, .ref b), (1, .ref (ad 0)), (2, .ref (ad 85)), (3, .ref (ad 92)), (4, .int i)]) (h1 : vp_in (i + 1) L) (h2 : vp_in (i + 2) L) {cells slots : Nat} (hc : cells + 1 ≤ 601024) (hs : slots + 6 ≤ 7293034) {Q : State → Prop} {μ' : Mem} {hh' : Int64} (st : St_19 (xs (i + 1).toNatClampNeg) (xs (i + 2).toNatClampNeg) μ μ') (eh : hh = hh') (kend : ∀ (o : Int64) (H : Heap) (locs : List Loc) (ls : Array Slot), HS D A (WW cI cG cL adE ad hh' o μ') s.heap H locs → lv_has ls 7 [(0, .ref b), (1, .ref (ad 0)), (2, .ref (ad 85)), (3, .ref (ad 92)), (4, .int i)] → W p l e room_1 s m #[.ref b] below meth c H locs (cells + 1) (slots + 6) Q (F0 m 1405 ls [])) : W p l e room_1 s m #[.ref b] below meth c H locs cells slots Q (F0 m 1209 ls []) := by
  subst eh
  have hx := X.1.1
  have hb := X.1.2.1
  rcases st with ⟨r, f1, f2, f3⟩ | ⟨f1, r, f2, f3⟩ | ⟨f1, r, f2, f3⟩
  · refine lv_aload_n hx hb dL_law_1209 rfl (lv_at hl 1 rfl) ?_
    refine lv_aload_n hx hb dL_law_1210 rfl (lv_at hl 0 rfl) ?_
    refine lv_iload hx hb dL_law_1211 (lv_at hl 4 rfl) ?_
    refine lv_iconst (v := 1) hx hb dL_law_1213 (by decide) ?_
    refine lv_iadd hx hb dL_law_1214 ?_
    refine va_sld hx hb hX hbl hbA hS.2.2 h1 dL_law_1215 ?_
    refine lv_aload_n hx hb dL_law_1216 rfl (lv_at hl 3 rfl) ?_
    refine r_cim hS (r_runSW (mc := 0) (ms := 0) (As := [.ref (ad 0), .int (xs (i + 1).toNatClampNeg), .ref (ad 92)]) (rest := []) X hS (o_L_changedSince l hE (D := D) (cI := cI) (cG := cG) (cL := cL) (wo := WW cI cG cL adE ad hh) (ad := ad) (q := 0) (qo := 92) (o := o) (μ := μ) (fun o => WW_pg hh o) (WW_out hh) f1) (vx_cwSW (hh := [(0, 9, 12, 37), (0, 9, 15, 13)]) 3 X.1.2.2.2.2 hL_L_changedSince rfl rfl rfl (by decide +kernel) ⟨Nat.le_of_ble_eq_true rfl, Nat.le_of_ble_eq_true rfl⟩) rfl hl.1 rfl (Nat.le_of_ble_eq_true rfl) dL_law_1217 ⟨Nat.le_of_lt hc, Nat.le_trans (Nat.le_add_right slots 6) hs⟩) (fun H locs hS => ?_)
    refine lv_istore (lv' := [(5, .int 0), (0, .ref b), (1, .ref (ad 0)), (2, .ref (ad 85)), (3, .ref (ad 92)), (4, .int i)]) hx hb dL_law_1220 hl (by decide) rfl (fun ls hl => ?_)
    refine lv_aload_n hx hb dL_law_1222 rfl (lv_at hl 3 rfl) ?_
    refine lv_aload_n hx hb dL_law_1223 rfl (lv_at hl 1 rfl) ?_
    refine lv_iload hx hb dL_law_1224 (lv_at hl 5 rfl) ?_
    refine lv_iconst (v := 1) hx hb dL_law_1226 (by decide) ?_
    refine lv_iadd hx hb dL_law_1227 ?_
    refine va_sld hx hb hX hbl hbA hS.2.2 h1 dL_law_1228 ?_
    refine r_ci hS (r_runV (As := [.int (xs (i + 1).toNatClampNeg)]) (rest := []) X hS (c_X7_changedSince l hE (D := D) (cI := cI) (cG := cG) (cL := cL) (w := WW cI cG cL adE ad hh r.toInt64) (ad := ad) (WW_model hh r.toInt64) f2) (cwV 1 X.1.2.2.2.2 hL_X7_changedSince rfl rfl rfl (by decide +kernel) ⟨Nat.le_of_ble_eq_true rfl, Nat.le_of_ble_eq_true rfl⟩) (q0 := 85) (ci := 5) rfl ((WW_model hh r.toInt64).1 μ).1 rfl hl.1 rfl (Nat.le_of_ble_eq_true rfl) dL_law_1229 ⟨Nat.le_of_lt hc, Nat.le_trans (Nat.le_add_right slots 6) hs⟩) (fun H locs hS => ?_)
    refine lv_istore (lv' := [(6, .int r), (5, .int 0), (0, .ref b), (1, .ref (ad 0)), (2, .ref (ad 85)), (3, .ref (ad 92)), (4, .int i)]) hx hb dL_law_1232 hl (by decide) rfl (fun ls hl => ?_)
    refine lv_aload_n hx hb dL_law_1234 rfl (lv_at hl 4 rfl) ?_
    refine r_ci hS (r_runV (As := []) (rest := []) X hS (c_X7_thrown l hE (D := D) (cI := cI) (cG := cG) (cL := cL) (w := WW cI cG cL adE ad hh r.toInt64) (ad := ad) (WW_model hh r.toInt64) f3) (cwV 0 X.1.2.2.2.2 hL_X7_thrown rfl rfl rfl (by decide +kernel) ⟨Nat.le_of_ble_eq_true rfl, Nat.le_of_ble_eq_true rfl⟩) (q0 := 85) (ci := 5) rfl ((WW_model hh r.toInt64).1 μ').1 rfl hl.1 rfl (Nat.le_of_ble_eq_true rfl) dL_law_1235 ⟨Nat.le_of_lt hc, Nat.le_trans (Nat.le_add_right slots 6) hs⟩) (fun H locs hS => ?_)
    refine lv_iload hx hb dL_law_1238 (lv_at hl 1 rfl) ?_
    refine lv_icmp_eq (tgt := 1245) hx hb dL_law_1240 (by decide) (fun _ => ?_) (fun cc => absurd rfl cc)
    refine lv_iload hx hb dL_law_1245 (lv_at hl 1 rfl) ?_
    refine lv_if_ne (tgt := 1262) hx hb dL_law_1247 (by decide) (fun cc => absurd rfl cc) (fun _ => ?_)
    refine lv_aload_n hx hb dL_law_1250 rfl (lv_at hl 5 rfl) ?_
    refine lv_iconst (v := 0) hx hb dL_law_1251 (by decide) ?_
    refine r_lald X hS (WW_out hh) dL_law_1252 ?_
    refine lv_iload hx hb dL_law_1253 (lv_at hl 0 rfl) ?_
    refine lv_i2l (v := r.toInt64) hx hb dL_law_1255 rfl ?_
    refine W.lcmp hx hb dL_law_1256 ?_
    refine lv_if_eq (tgt := 1262) hx hb dL_law_1257 (by decide) (fun _ => ?_) (fun cc => absurd (lg_self _) cc)
    refine lv_goto (tgt := 1405) hx hb dL_law_1262 (by decide) ?_
    refine W.widen (k := cells + 1) (n := slots + 6) (Nat.le_succ _) (Nat.le_add_right _ _) ?_
    exact kend r.toInt64 H locs ls hS (lv_sub hl [2, 3, 4, 5, 6] rfl)
  · refine lv_aload_n hx hb dL_law_1209 rfl (lv_at hl 1 rfl) ?_
    refine lv_aload_n hx hb dL_law_1210 rfl (lv_at hl 0 rfl) ?_
    refine lv_iload hx hb dL_law_1211 (lv_at hl 4 rfl) ?_
    refine lv_iconst (v := 1) hx hb dL_law_1213 (by decide) ?_
    refine lv_iadd hx hb dL_law_1214 ?_
    refine va_sld hx hb hX hbl hbA hS.2.2 h1 dL_law_1215 ?_
    refine lv_aload_n hx hb dL_law_1216 rfl (lv_at hl 3 rfl) ?_
    refine r_cim hS (r_runSW (mc := 1) (ms := 6) (As := [.ref (ad 0), .int (xs (i + 1).toNatClampNeg), .ref (ad 92)]) (rest := []) X hS (x_L_changedSince_1 l hE (D := D) (cI := cI) (cG := cG) (cL := cL) (wo := WW cI cG cL adE ad hh) (ad := ad) (q := 0) (qo := 92) (o := o) (μ := μ) (fun o => WW_pg hh o) (WW_out hh) hst f1) (vx_cwSW (hh := [(0, 9, 12, 37), (0, 9, 15, 13)]) 3 X.1.2.2.2.2 hL_L_changedSince rfl rfl rfl (by decide +kernel) ⟨Nat.le_of_ble_eq_true rfl, Nat.le_of_ble_eq_true rfl⟩) rfl hl.1 rfl (Nat.le_of_ble_eq_true rfl) dL_law_1217 ⟨hc, hs⟩) (fun H locs hS => ?_)
    refine lv_istore (lv' := [(5, .int 1), (0, .ref b), (1, .ref (ad 0)), (2, .ref (ad 85)), (3, .ref (ad 92)), (4, .int i)]) hx hb dL_law_1220 hl (by decide) rfl (fun ls hl => ?_)
    refine lv_aload_n hx hb dL_law_1222 rfl (lv_at hl 3 rfl) ?_
    refine lv_aload_n hx hb dL_law_1223 rfl (lv_at hl 1 rfl) ?_
    refine lv_iload hx hb dL_law_1224 (lv_at hl 5 rfl) ?_
    refine lv_iconst (v := 1) hx hb dL_law_1226 (by decide) ?_
    refine lv_iadd hx hb dL_law_1227 ?_
    refine va_sld hx hb hX hbl hbA hS.2.2 h1 dL_law_1228 ?_
    refine r_ci hS (r_runV (As := [.int (xs (i + 1).toNatClampNeg)]) (rest := []) X hS (c_X7_changedSince l hE (D := D) (cI := cI) (cG := cG) (cL := cL) (w := WW cI cG cL adE ad hh o) (ad := ad) (WW_model hh o) f2) (cwV 1 X.1.2.2.2.2 hL_X7_changedSince rfl rfl rfl (by decide +kernel) ⟨Nat.le_of_ble_eq_true rfl, Nat.le_of_ble_eq_true rfl⟩) (q0 := 85) (ci := 5) rfl ((WW_model hh o).1 μ).1 rfl hl.1 rfl (Nat.le_of_ble_eq_true rfl) dL_law_1229 ⟨hc, hs⟩) (fun H locs hS => ?_)
    refine lv_istore (lv' := [(6, .int r), (5, .int 1), (0, .ref b), (1, .ref (ad 0)), (2, .ref (ad 85)), (3, .ref (ad 92)), (4, .int i)]) hx hb dL_law_1232 hl (by decide) rfl (fun ls hl => ?_)
    refine lv_aload_n hx hb dL_law_1234 rfl (lv_at hl 4 rfl) ?_
    refine r_ci hS (r_runV (As := []) (rest := []) X hS (c_X7_thrown l hE (D := D) (cI := cI) (cG := cG) (cL := cL) (w := WW cI cG cL adE ad hh o) (ad := ad) (WW_model hh o) f3) (cwV 0 X.1.2.2.2.2 hL_X7_thrown rfl rfl rfl (by decide +kernel) ⟨Nat.le_of_ble_eq_true rfl, Nat.le_of_ble_eq_true rfl⟩) (q0 := 85) (ci := 5) rfl ((WW_model hh o).1 μ').1 rfl hl.1 rfl (Nat.le_of_ble_eq_true rfl) dL_law_1235 ⟨hc, hs⟩) (fun H locs hS => ?_)
    refine lv_iload hx hb dL_law_1238 (lv_at hl 1 rfl) ?_
    refine lv_icmp_eq (tgt := 1245) hx hb dL_law_1240 (by decide) (fun _ => ?_) (fun cc => absurd rfl cc)
    refine lv_iload hx hb dL_law_1245 (lv_at hl 1 rfl) ?_
    refine lv_if_ne (tgt := 1262) hx hb dL_law_1247 (by decide) (fun _ => ?_) (fun cc => absurd cc (by decide))
    refine lv_goto (tgt := 1405) hx hb dL_law_1262 (by decide) ?_
    exact kend o H locs ls hS (lv_sub hl [2, 3, 4, 5, 6] rfl)
  · refine lv_aload_n hx hb dL_law_1209 rfl (lv_at hl 1 rfl) ?_
    refine lv_aload_n hx hb dL_law_1210 rfl (lv_at hl 0 rfl) ?_
    refine lv_iload hx hb dL_law_1211 (lv_at hl 4 rfl) ?_
    refine lv_iconst (v := 1) hx hb dL_law_1213 (by decide) ?_
    refine lv_iadd hx hb dL_law_1214 ?_
    refine va_sld hx hb hX hbl hbA hS.2.2 h1 dL_law_1215 ?_
    refine lv_aload_n hx hb dL_law_1216 rfl (lv_at hl 3 rfl) ?_
    refine r_cim hS (r_runSW (mc := 1) (ms := 6) (As := [.ref (ad 0), .int (xs (i + 1).toNatClampNeg), .ref (ad 92)]) (rest := []) X hS (x_L_changedSince_3 l hE (D := D) (cI := cI) (cG := cG) (cL := cL) (wo := WW cI cG cL adE ad hh) (ad := ad) (q := 0) (qo := 92) (o := o) (μ := μ) (fun o => WW_pg hh o) (WW_out hh) hst f1) (vx_cwSW (hh := [(0, 9, 12, 37), (0, 9, 15, 13)]) 3 X.1.2.2.2.2 hL_L_changedSince rfl rfl rfl (by decide +kernel) ⟨Nat.le_of_ble_eq_true rfl, Nat.le_of_ble_eq_true rfl⟩) rfl hl.1 rfl (Nat.le_of_ble_eq_true rfl) dL_law_1217 ⟨hc, hs⟩) (fun H locs hS => ?_)
    refine lv_istore (lv' := [(5, .int 2), (0, .ref b), (1, .ref (ad 0)), (2, .ref (ad 85)), (3, .ref (ad 92)), (4, .int i)]) hx hb dL_law_1220 hl (by decide) rfl (fun ls hl => ?_)
    refine lv_aload_n hx hb dL_law_1222 rfl (lv_at hl 3 rfl) ?_
    refine lv_aload_n hx hb dL_law_1223 rfl (lv_at hl 1 rfl) ?_
    refine lv_iload hx hb dL_law_1224 (lv_at hl 5 rfl) ?_
    refine lv_iconst (v := 1) hx hb dL_law_1226 (by decide) ?_
    refine lv_iadd hx hb dL_law_1227 ?_
    refine va_sld hx hb hX hbl hbA hS.2.2 h1 dL_law_1228 ?_
    refine r_ci hS (r_runV (As := [.int (xs (i + 1).toNatClampNeg)]) (rest := []) X hS (c_X7_changedSince l hE (D := D) (cI := cI) (cG := cG) (cL := cL) (w := WW cI cG cL adE ad hh o) (ad := ad) (WW_model hh o) f2) (cwV 1 X.1.2.2.2.2 hL_X7_changedSince rfl rfl rfl (by decide +kernel) ⟨Nat.le_of_ble_eq_true rfl, Nat.le_of_ble_eq_true rfl⟩) (q0 := 85) (ci := 5) rfl ((WW_model hh o).1 μ).1 rfl hl.1 rfl (Nat.le_of_ble_eq_true rfl) dL_law_1229 ⟨hc, hs⟩) (fun H locs hS => ?_)
    refine lv_istore (lv' := [(6, .int r), (5, .int 2), (0, .ref b), (1, .ref (ad 0)), (2, .ref (ad 85)), (3, .ref (ad 92)), (4, .int i)]) hx hb dL_law_1232 hl (by decide) rfl (fun ls hl => ?_)
    refine lv_aload_n hx hb dL_law_1234 rfl (lv_at hl 4 rfl) ?_
    refine r_ci hS (r_runV (As := []) (rest := []) X hS (c_X7_thrown l hE (D := D) (cI := cI) (cG := cG) (cL := cL) (w := WW cI cG cL adE ad hh o) (ad := ad) (WW_model hh o) f3) (cwV 0 X.1.2.2.2.2 hL_X7_thrown rfl rfl rfl (by decide +kernel) ⟨Nat.le_of_ble_eq_true rfl, Nat.le_of_ble_eq_true rfl⟩) (q0 := 85) (ci := 5) rfl ((WW_model hh o).1 μ').1 rfl hl.1 rfl (Nat.le_of_ble_eq_true rfl) dL_law_1235 ⟨hc, hs⟩) (fun H locs hS => ?_)
    refine lv_iload hx hb dL_law_1238 (lv_at hl 1 rfl) ?_
    refine lv_icmp_eq (tgt := 1245) hx hb dL_law_1240 (by decide) (fun _ => ?_) (fun cc => absurd rfl cc)
    refine lv_iload hx hb dL_law_1245 (lv_at hl 1 rfl) ?_
    refine lv_if_ne (tgt := 1262) hx hb dL_law_1247 (by decide) (fun _ => ?_) (fun cc => absurd cc (by decide))
    refine lv_goto (tgt := 1405) hx hb dL_law_1262 (by decide) ?_
    exact kend o H locs ls hS (lv_sub hl [2, 3, 4, 5, 6] rfl)
def St_20 (a1 a2 : Int32) (μ μ' : Mem) : Prop := (∃ (r : Int32) (μ1 : Mem), f_X6_type 0 a1 μ = some (r, μ1) ∧ f_X7_type 85 a1 μ1 = some (r, μ') ∧ f_X7_thrown 85 μ' = some 0) ∨ (f_X6_type_t 0 a1 μ = some 2 ∧ ∃ r : Int32, f_X7_type 85 a1 μ = some (r, μ') ∧ f_X7_thrown 85 μ' = some 1) ∨ (f_X6_type_t 0 a1 μ = some 3 ∧ ∃ r : Int32, f_X7_type 85 a1 μ = some (r, μ') ∧ f_X7_thrown 85 μ' = some 2)
set_option maxHeartbeats 4000000 in
set_option maxRecDepth 100000 in
theorem k_L_20 (l : Launch) {D : va_G} {cI cG cL : ClassId} {A : Nat → Prop} {tC tS : Nat} {adE adK adV ad : Nat → Nat} (hE : EnOK (ENV tC tS adE adK adV A) A) (hst : l.stackTraces = false) {p : Program} {e : Env} {s : State} {m : MethodId} {below : List Frame} {meth : Method} {c : Code} {b L : Nat} {xs : Nat → Int32} (X : Cx p s m #[.ref b] c cL_law 7 vsL_law RL D (tyl cI cG cL) A (ENV tC tS adE adK adV A)) (hX : va_X b L xs s s.heap) (hbl : b < s.heap.size) (hbA : ¬ A b) {H : Heap} {locs : List Loc} {ls : Array Slot} {hh o : Int64} {μ : Mem} {i : Int32} (hS : HS D A (WW cI cG cL adE ad hh o μ) s.heap H locs) (hl : lv_has ls 7 [(0, .ref b), (1, .ref (ad 0)), (2, .ref (ad 85)), (3, .ref (ad 92)), (4, .int i)]) (h1 : vp_in (i + 1) L) (h2 : vp_in (i + 2) L) {cells slots : Nat} (hc : cells + 1 ≤ 601024) (hs : slots + 6 ≤ 7293034) {Q : State → Prop} {μ' : Mem} {hh' : Int64} (st : St_20 (xs (i + 1).toNatClampNeg) (xs (i + 2).toNatClampNeg) μ μ') (eh : hh = hh') (kend : ∀ (o : Int64) (H : Heap) (locs : List Loc) (ls : Array Slot), HS D A (WW cI cG cL adE ad hh' o μ') s.heap H locs → lv_has ls 7 [(0, .ref b), (1, .ref (ad 0)), (2, .ref (ad 85)), (3, .ref (ad 92)), (4, .int i)] → W p l e room_1 s m #[.ref b] below meth c H locs (cells + 1) (slots + 6) Q (F0 m 1405 ls [])) : W p l e room_1 s m #[.ref b] below meth c H locs cells slots Q (F0 m 1265 ls []) := by
  subst eh
  have hx := X.1.1
  have hb := X.1.2.1
  rcases st with ⟨r, μ1, f1, f2, f3⟩ | ⟨f1, r, f2, f3⟩ | ⟨f1, r, f2, f3⟩
  · refine lv_aload_n hx hb dL_law_1265 rfl (lv_at hl 1 rfl) ?_
    refine lv_aload_n hx hb dL_law_1266 rfl (lv_at hl 0 rfl) ?_
    refine lv_iload hx hb dL_law_1267 (lv_at hl 4 rfl) ?_
    refine lv_iconst (v := 1) hx hb dL_law_1269 (by decide) ?_
    refine lv_iadd hx hb dL_law_1270 ?_
    refine va_sld hx hb hX hbl hbA hS.2.2 h1 dL_law_1271 ?_
    refine lv_aload_n hx hb dL_law_1272 rfl (lv_at hl 3 rfl) ?_
    refine r_cim hS (r_runSW (mc := 0) (ms := 0) (As := [.ref (ad 0), .int (xs (i + 1).toNatClampNeg), .ref (ad 92)]) (rest := []) X hS (o_L_type l hE (D := D) (cI := cI) (cG := cG) (cL := cL) (wo := WW cI cG cL adE ad hh) (ad := ad) (q := 0) (qo := 92) (o := o) (μ := μ) (fun o => WW_pg hh o) (WW_out hh) f1) (vx_cwSW (hh := [(0, 9, 12, 19), (0, 9, 15, 13)]) 3 X.1.2.2.2.2 hL_L_type rfl rfl rfl (by decide +kernel) ⟨Nat.le_of_ble_eq_true rfl, Nat.le_of_ble_eq_true rfl⟩) rfl hl.1 rfl (Nat.le_of_ble_eq_true rfl) dL_law_1273 ⟨Nat.le_of_lt hc, Nat.le_trans (Nat.le_add_right slots 6) hs⟩) (fun H locs hS => ?_)
    refine lv_istore (lv' := [(5, .int 0), (0, .ref b), (1, .ref (ad 0)), (2, .ref (ad 85)), (3, .ref (ad 92)), (4, .int i)]) hx hb dL_law_1276 hl (by decide) rfl (fun ls hl => ?_)
    refine lv_aload_n hx hb dL_law_1278 rfl (lv_at hl 3 rfl) ?_
    refine lv_aload_n hx hb dL_law_1279 rfl (lv_at hl 1 rfl) ?_
    refine lv_iload hx hb dL_law_1280 (lv_at hl 5 rfl) ?_
    refine lv_iconst (v := 1) hx hb dL_law_1282 (by decide) ?_
    refine lv_iadd hx hb dL_law_1283 ?_
    refine va_sld hx hb hX hbl hbA hS.2.2 h1 dL_law_1284 ?_
    refine r_ci hS (r_runV (As := [.int (xs (i + 1).toNatClampNeg)]) (rest := []) X hS (c_X7_type l hE (D := D) (cI := cI) (cG := cG) (cL := cL) (w := WW cI cG cL adE ad hh r.toInt64) (ad := ad) (WW_model hh r.toInt64) f2) (cwV 1 X.1.2.2.2.2 hL_X7_type rfl rfl rfl (by decide +kernel) ⟨Nat.le_of_ble_eq_true rfl, Nat.le_of_ble_eq_true rfl⟩) (q0 := 85) (ci := 5) rfl ((WW_model hh r.toInt64).1 μ1).1 rfl hl.1 rfl (Nat.le_of_ble_eq_true rfl) dL_law_1285 ⟨Nat.le_of_lt hc, Nat.le_trans (Nat.le_add_right slots 6) hs⟩) (fun H locs hS => ?_)
    refine lv_istore (lv' := [(6, .int r), (5, .int 0), (0, .ref b), (1, .ref (ad 0)), (2, .ref (ad 85)), (3, .ref (ad 92)), (4, .int i)]) hx hb dL_law_1288 hl (by decide) rfl (fun ls hl => ?_)
    refine lv_aload_n hx hb dL_law_1290 rfl (lv_at hl 4 rfl) ?_
    refine r_ci hS (r_runV (As := []) (rest := []) X hS (c_X7_thrown l hE (D := D) (cI := cI) (cG := cG) (cL := cL) (w := WW cI cG cL adE ad hh r.toInt64) (ad := ad) (WW_model hh r.toInt64) f3) (cwV 0 X.1.2.2.2.2 hL_X7_thrown rfl rfl rfl (by decide +kernel) ⟨Nat.le_of_ble_eq_true rfl, Nat.le_of_ble_eq_true rfl⟩) (q0 := 85) (ci := 5) rfl ((WW_model hh r.toInt64).1 μ').1 rfl hl.1 rfl (Nat.le_of_ble_eq_true rfl) dL_law_1291 ⟨Nat.le_of_lt hc, Nat.le_trans (Nat.le_add_right slots 6) hs⟩) (fun H locs hS => ?_)
    refine lv_iload hx hb dL_law_1294 (lv_at hl 1 rfl) ?_
    refine lv_icmp_eq (tgt := 1301) hx hb dL_law_1296 (by decide) (fun _ => ?_) (fun cc => absurd rfl cc)
    refine lv_iload hx hb dL_law_1301 (lv_at hl 1 rfl) ?_
    refine lv_if_ne (tgt := 1318) hx hb dL_law_1303 (by decide) (fun cc => absurd rfl cc) (fun _ => ?_)
    refine lv_aload_n hx hb dL_law_1306 rfl (lv_at hl 5 rfl) ?_
    refine lv_iconst (v := 0) hx hb dL_law_1307 (by decide) ?_
    refine r_lald X hS (WW_out hh) dL_law_1308 ?_
    refine lv_iload hx hb dL_law_1309 (lv_at hl 0 rfl) ?_
    refine lv_i2l (v := r.toInt64) hx hb dL_law_1311 rfl ?_
    refine W.lcmp hx hb dL_law_1312 ?_
    refine lv_if_eq (tgt := 1318) hx hb dL_law_1313 (by decide) (fun _ => ?_) (fun cc => absurd (lg_self _) cc)
    refine lv_goto (tgt := 1405) hx hb dL_law_1318 (by decide) ?_
    refine W.widen (k := cells + 1) (n := slots + 6) (Nat.le_succ _) (Nat.le_add_right _ _) ?_
    exact kend r.toInt64 H locs ls hS (lv_sub hl [2, 3, 4, 5, 6] rfl)
  · refine lv_aload_n hx hb dL_law_1265 rfl (lv_at hl 1 rfl) ?_
    refine lv_aload_n hx hb dL_law_1266 rfl (lv_at hl 0 rfl) ?_
    refine lv_iload hx hb dL_law_1267 (lv_at hl 4 rfl) ?_
    refine lv_iconst (v := 1) hx hb dL_law_1269 (by decide) ?_
    refine lv_iadd hx hb dL_law_1270 ?_
    refine va_sld hx hb hX hbl hbA hS.2.2 h1 dL_law_1271 ?_
    refine lv_aload_n hx hb dL_law_1272 rfl (lv_at hl 3 rfl) ?_
    refine r_cim hS (r_runSW (mc := 1) (ms := 6) (As := [.ref (ad 0), .int (xs (i + 1).toNatClampNeg), .ref (ad 92)]) (rest := []) X hS (x_L_type_2 l hE (D := D) (cI := cI) (cG := cG) (cL := cL) (wo := WW cI cG cL adE ad hh) (ad := ad) (q := 0) (qo := 92) (o := o) (μ := μ) (fun o => WW_pg hh o) (WW_out hh) hst f1) (vx_cwSW (hh := [(0, 9, 12, 19), (0, 9, 15, 13)]) 3 X.1.2.2.2.2 hL_L_type rfl rfl rfl (by decide +kernel) ⟨Nat.le_of_ble_eq_true rfl, Nat.le_of_ble_eq_true rfl⟩) rfl hl.1 rfl (Nat.le_of_ble_eq_true rfl) dL_law_1273 ⟨hc, hs⟩) (fun H locs hS => ?_)
    refine lv_istore (lv' := [(5, .int 1), (0, .ref b), (1, .ref (ad 0)), (2, .ref (ad 85)), (3, .ref (ad 92)), (4, .int i)]) hx hb dL_law_1276 hl (by decide) rfl (fun ls hl => ?_)
    refine lv_aload_n hx hb dL_law_1278 rfl (lv_at hl 3 rfl) ?_
    refine lv_aload_n hx hb dL_law_1279 rfl (lv_at hl 1 rfl) ?_
    refine lv_iload hx hb dL_law_1280 (lv_at hl 5 rfl) ?_
    refine lv_iconst (v := 1) hx hb dL_law_1282 (by decide) ?_
    refine lv_iadd hx hb dL_law_1283 ?_
    refine va_sld hx hb hX hbl hbA hS.2.2 h1 dL_law_1284 ?_
    refine r_ci hS (r_runV (As := [.int (xs (i + 1).toNatClampNeg)]) (rest := []) X hS (c_X7_type l hE (D := D) (cI := cI) (cG := cG) (cL := cL) (w := WW cI cG cL adE ad hh o) (ad := ad) (WW_model hh o) f2) (cwV 1 X.1.2.2.2.2 hL_X7_type rfl rfl rfl (by decide +kernel) ⟨Nat.le_of_ble_eq_true rfl, Nat.le_of_ble_eq_true rfl⟩) (q0 := 85) (ci := 5) rfl ((WW_model hh o).1 μ).1 rfl hl.1 rfl (Nat.le_of_ble_eq_true rfl) dL_law_1285 ⟨hc, hs⟩) (fun H locs hS => ?_)
    refine lv_istore (lv' := [(6, .int r), (5, .int 1), (0, .ref b), (1, .ref (ad 0)), (2, .ref (ad 85)), (3, .ref (ad 92)), (4, .int i)]) hx hb dL_law_1288 hl (by decide) rfl (fun ls hl => ?_)
    refine lv_aload_n hx hb dL_law_1290 rfl (lv_at hl 4 rfl) ?_
    refine r_ci hS (r_runV (As := []) (rest := []) X hS (c_X7_thrown l hE (D := D) (cI := cI) (cG := cG) (cL := cL) (w := WW cI cG cL adE ad hh o) (ad := ad) (WW_model hh o) f3) (cwV 0 X.1.2.2.2.2 hL_X7_thrown rfl rfl rfl (by decide +kernel) ⟨Nat.le_of_ble_eq_true rfl, Nat.le_of_ble_eq_true rfl⟩) (q0 := 85) (ci := 5) rfl ((WW_model hh o).1 μ').1 rfl hl.1 rfl (Nat.le_of_ble_eq_true rfl) dL_law_1291 ⟨hc, hs⟩) (fun H locs hS => ?_)
    refine lv_iload hx hb dL_law_1294 (lv_at hl 1 rfl) ?_
    refine lv_icmp_eq (tgt := 1301) hx hb dL_law_1296 (by decide) (fun _ => ?_) (fun cc => absurd rfl cc)
    refine lv_iload hx hb dL_law_1301 (lv_at hl 1 rfl) ?_
    refine lv_if_ne (tgt := 1318) hx hb dL_law_1303 (by decide) (fun _ => ?_) (fun cc => absurd cc (by decide))
    refine lv_goto (tgt := 1405) hx hb dL_law_1318 (by decide) ?_
    exact kend o H locs ls hS (lv_sub hl [2, 3, 4, 5, 6] rfl)
  · refine lv_aload_n hx hb dL_law_1265 rfl (lv_at hl 1 rfl) ?_
    refine lv_aload_n hx hb dL_law_1266 rfl (lv_at hl 0 rfl) ?_
    refine lv_iload hx hb dL_law_1267 (lv_at hl 4 rfl) ?_
    refine lv_iconst (v := 1) hx hb dL_law_1269 (by decide) ?_
    refine lv_iadd hx hb dL_law_1270 ?_
    refine va_sld hx hb hX hbl hbA hS.2.2 h1 dL_law_1271 ?_
    refine lv_aload_n hx hb dL_law_1272 rfl (lv_at hl 3 rfl) ?_
    refine r_cim hS (r_runSW (mc := 1) (ms := 6) (As := [.ref (ad 0), .int (xs (i + 1).toNatClampNeg), .ref (ad 92)]) (rest := []) X hS (x_L_type_3 l hE (D := D) (cI := cI) (cG := cG) (cL := cL) (wo := WW cI cG cL adE ad hh) (ad := ad) (q := 0) (qo := 92) (o := o) (μ := μ) (fun o => WW_pg hh o) (WW_out hh) hst f1) (vx_cwSW (hh := [(0, 9, 12, 19), (0, 9, 15, 13)]) 3 X.1.2.2.2.2 hL_L_type rfl rfl rfl (by decide +kernel) ⟨Nat.le_of_ble_eq_true rfl, Nat.le_of_ble_eq_true rfl⟩) rfl hl.1 rfl (Nat.le_of_ble_eq_true rfl) dL_law_1273 ⟨hc, hs⟩) (fun H locs hS => ?_)
    refine lv_istore (lv' := [(5, .int 2), (0, .ref b), (1, .ref (ad 0)), (2, .ref (ad 85)), (3, .ref (ad 92)), (4, .int i)]) hx hb dL_law_1276 hl (by decide) rfl (fun ls hl => ?_)
    refine lv_aload_n hx hb dL_law_1278 rfl (lv_at hl 3 rfl) ?_
    refine lv_aload_n hx hb dL_law_1279 rfl (lv_at hl 1 rfl) ?_
    refine lv_iload hx hb dL_law_1280 (lv_at hl 5 rfl) ?_
    refine lv_iconst (v := 1) hx hb dL_law_1282 (by decide) ?_
    refine lv_iadd hx hb dL_law_1283 ?_
    refine va_sld hx hb hX hbl hbA hS.2.2 h1 dL_law_1284 ?_
    refine r_ci hS (r_runV (As := [.int (xs (i + 1).toNatClampNeg)]) (rest := []) X hS (c_X7_type l hE (D := D) (cI := cI) (cG := cG) (cL := cL) (w := WW cI cG cL adE ad hh o) (ad := ad) (WW_model hh o) f2) (cwV 1 X.1.2.2.2.2 hL_X7_type rfl rfl rfl (by decide +kernel) ⟨Nat.le_of_ble_eq_true rfl, Nat.le_of_ble_eq_true rfl⟩) (q0 := 85) (ci := 5) rfl ((WW_model hh o).1 μ).1 rfl hl.1 rfl (Nat.le_of_ble_eq_true rfl) dL_law_1285 ⟨hc, hs⟩) (fun H locs hS => ?_)
    refine lv_istore (lv' := [(6, .int r), (5, .int 2), (0, .ref b), (1, .ref (ad 0)), (2, .ref (ad 85)), (3, .ref (ad 92)), (4, .int i)]) hx hb dL_law_1288 hl (by decide) rfl (fun ls hl => ?_)
    refine lv_aload_n hx hb dL_law_1290 rfl (lv_at hl 4 rfl) ?_
    refine r_ci hS (r_runV (As := []) (rest := []) X hS (c_X7_thrown l hE (D := D) (cI := cI) (cG := cG) (cL := cL) (w := WW cI cG cL adE ad hh o) (ad := ad) (WW_model hh o) f3) (cwV 0 X.1.2.2.2.2 hL_X7_thrown rfl rfl rfl (by decide +kernel) ⟨Nat.le_of_ble_eq_true rfl, Nat.le_of_ble_eq_true rfl⟩) (q0 := 85) (ci := 5) rfl ((WW_model hh o).1 μ').1 rfl hl.1 rfl (Nat.le_of_ble_eq_true rfl) dL_law_1291 ⟨hc, hs⟩) (fun H locs hS => ?_)
    refine lv_iload hx hb dL_law_1294 (lv_at hl 1 rfl) ?_
    refine lv_icmp_eq (tgt := 1301) hx hb dL_law_1296 (by decide) (fun _ => ?_) (fun cc => absurd rfl cc)
    refine lv_iload hx hb dL_law_1301 (lv_at hl 1 rfl) ?_
    refine lv_if_ne (tgt := 1318) hx hb dL_law_1303 (by decide) (fun _ => ?_) (fun cc => absurd cc (by decide))
    refine lv_goto (tgt := 1405) hx hb dL_law_1318 (by decide) ?_
    exact kend o H locs ls hS (lv_sub hl [2, 3, 4, 5, 6] rfl)
def St_21 (μ μ' : Mem) : Prop := ∃ (r : Int32) (μ1 : Mem), f_X6_clearCommands 0 μ = some (r, μ1) ∧ f_X7_clearCommands 85 μ1 = some (r, μ')
set_option maxHeartbeats 4000000 in
set_option maxRecDepth 100000 in
theorem k_L_21 (l : Launch) {D : va_G} {cI cG cL : ClassId} {A : Nat → Prop} {tC tS : Nat} {adE adK adV ad : Nat → Nat} (hE : EnOK (ENV tC tS adE adK adV A) A) (hst : l.stackTraces = false) {p : Program} {e : Env} {s : State} {m : MethodId} {below : List Frame} {meth : Method} {c : Code} {b L : Nat} {xs : Nat → Int32} (X : Cx p s m #[.ref b] c cL_law 7 vsL_law RL D (tyl cI cG cL) A (ENV tC tS adE adK adV A)) (hX : va_X b L xs s s.heap) (hbl : b < s.heap.size) (hbA : ¬ A b) {H : Heap} {locs : List Loc} {ls : Array Slot} {hh o : Int64} {μ : Mem} {i : Int32} (hS : HS D A (WW cI cG cL adE ad hh o μ) s.heap H locs) (hl : lv_has ls 7 [(0, .ref b), (1, .ref (ad 0)), (2, .ref (ad 85)), (3, .ref (ad 92)), (4, .int i)]) (h1 : vp_in (i + 1) L) (h2 : vp_in (i + 2) L) {cells slots : Nat} (hc : cells + 1 ≤ 601024) (hs : slots + 6 ≤ 7293034) {Q : State → Prop} {μ' : Mem} {hh' : Int64} (st : St_21 μ μ') (eh : hh = hh') (kend : ∀ (o : Int64) (H : Heap) (locs : List Loc) (ls : Array Slot), HS D A (WW cI cG cL adE ad hh' o μ') s.heap H locs → lv_has ls 7 [(0, .ref b), (1, .ref (ad 0)), (2, .ref (ad 85)), (3, .ref (ad 92)), (4, .int i)] → W p l e room_1 s m #[.ref b] below meth c H locs (cells + 1) (slots + 6) Q (F0 m 1405 ls [])) : W p l e room_1 s m #[.ref b] below meth c H locs cells slots Q (F0 m 1321 ls []) := by
  subst eh
  have hx := X.1.1
  have hb := X.1.2.1
  obtain ⟨r, μ1, f1, f2⟩ := st
  refine lv_aload_n hx hb dL_law_1321 rfl (lv_at hl 1 rfl) ?_
  refine r_ci hS (r_runV (As := []) (rest := []) X hS (c_X6_clearCommands l hE (D := D) (cI := cI) (cG := cG) (cL := cL) (w := WW cI cG cL adE ad hh o) (ad := ad) (WW_pg hh o) f1) (cwV 0 X.1.2.2.2.2 hL_X6_clearCommands rfl rfl rfl (by decide +kernel) ⟨Nat.le_of_ble_eq_true rfl, Nat.le_of_ble_eq_true rfl⟩) (q0 := 0) (ci := 4) rfl ((WW_pg hh o).1 μ).1 rfl hl.1 rfl (Nat.le_of_ble_eq_true rfl) dL_law_1322 ⟨Nat.le_of_lt hc, Nat.le_trans (Nat.le_add_right slots 6) hs⟩) (fun H locs hS => ?_)
  refine lv_aload_n hx hb dL_law_1325 rfl (lv_at hl 2 rfl) ?_
  refine r_ci hS (r_runV (As := []) (rest := [.int r]) X hS (c_X7_clearCommands l hE (D := D) (cI := cI) (cG := cG) (cL := cL) (w := WW cI cG cL adE ad hh o) (ad := ad) (WW_model hh o) f2) (cwV 0 X.1.2.2.2.2 hL_X7_clearCommands rfl rfl rfl (by decide +kernel) ⟨Nat.le_of_ble_eq_true rfl, Nat.le_of_ble_eq_true rfl⟩) (q0 := 85) (ci := 5) rfl ((WW_model hh o).1 μ1).1 rfl hl.1 rfl (Nat.le_of_ble_eq_true rfl) dL_law_1326 ⟨Nat.le_of_lt hc, Nat.le_trans (Nat.le_add_right slots 6) hs⟩) (fun H locs hS => ?_)
  refine lv_icmp_eq (tgt := 1405) hx hb dL_law_1329 (by decide) (fun _ => ?_) (fun cc => absurd rfl cc)
  refine W.widen (k := cells + 1) (n := slots + 6) (Nat.le_succ _) (Nat.le_add_right _ _) ?_
  exact kend o H locs ls hS (lv_sub hl [0, 1, 2, 3, 4] rfl)
def St_22 (μ μ' : Mem) : Prop := ∃ (r : Int32) (μ1 : Mem), f_X6_runCommands 0 μ = some (r, μ1) ∧ f_X7_runCommands 85 μ1 = some (r, μ')
set_option maxHeartbeats 4000000 in
set_option maxRecDepth 100000 in
theorem k_L_22 (l : Launch) {D : va_G} {cI cG cL : ClassId} {A : Nat → Prop} {tC tS : Nat} {adE adK adV ad : Nat → Nat} (hE : EnOK (ENV tC tS adE adK adV A) A) (hst : l.stackTraces = false) {p : Program} {e : Env} {s : State} {m : MethodId} {below : List Frame} {meth : Method} {c : Code} {b L : Nat} {xs : Nat → Int32} (X : Cx p s m #[.ref b] c cL_law 7 vsL_law RL D (tyl cI cG cL) A (ENV tC tS adE adK adV A)) (hX : va_X b L xs s s.heap) (hbl : b < s.heap.size) (hbA : ¬ A b) {H : Heap} {locs : List Loc} {ls : Array Slot} {hh o : Int64} {μ : Mem} {i : Int32} (hS : HS D A (WW cI cG cL adE ad hh o μ) s.heap H locs) (hl : lv_has ls 7 [(0, .ref b), (1, .ref (ad 0)), (2, .ref (ad 85)), (3, .ref (ad 92)), (4, .int i)]) (h1 : vp_in (i + 1) L) (h2 : vp_in (i + 2) L) {cells slots : Nat} (hc : cells + 1 ≤ 601024) (hs : slots + 6 ≤ 7293034) {Q : State → Prop} {μ' : Mem} {hh' : Int64} (st : St_22 μ μ') (eh : hh = hh') (kend : ∀ (o : Int64) (H : Heap) (locs : List Loc) (ls : Array Slot), HS D A (WW cI cG cL adE ad hh' o μ') s.heap H locs → lv_has ls 7 [(0, .ref b), (1, .ref (ad 0)), (2, .ref (ad 85)), (3, .ref (ad 92)), (4, .int i)] → W p l e room_1 s m #[.ref b] below meth c H locs (cells + 1) (slots + 6) Q (F0 m 1405 ls [])) : W p l e room_1 s m #[.ref b] below meth c H locs cells slots Q (F0 m 1334 ls []) := by
  subst eh
  have hx := X.1.1
  have hb := X.1.2.1
  obtain ⟨r, μ1, f1, f2⟩ := st
  refine lv_aload_n hx hb dL_law_1334 rfl (lv_at hl 1 rfl) ?_
  refine r_ci hS (r_runV (As := []) (rest := []) X hS (c_X6_runCommands l hE (D := D) (cI := cI) (cG := cG) (cL := cL) (w := WW cI cG cL adE ad hh o) (ad := ad) (WW_pg hh o) f1) (cwV 0 X.1.2.2.2.2 hL_X6_runCommands rfl rfl rfl (by decide +kernel) ⟨Nat.le_of_ble_eq_true rfl, Nat.le_of_ble_eq_true rfl⟩) (q0 := 0) (ci := 4) rfl ((WW_pg hh o).1 μ).1 rfl hl.1 rfl (Nat.le_of_ble_eq_true rfl) dL_law_1335 ⟨Nat.le_of_lt hc, Nat.le_trans (Nat.le_add_right slots 6) hs⟩) (fun H locs hS => ?_)
  refine lv_aload_n hx hb dL_law_1338 rfl (lv_at hl 2 rfl) ?_
  refine r_ci hS (r_runV (As := []) (rest := [.int r]) X hS (c_X7_runCommands l hE (D := D) (cI := cI) (cG := cG) (cL := cL) (w := WW cI cG cL adE ad hh o) (ad := ad) (WW_model hh o) f2) (cwV 0 X.1.2.2.2.2 hL_X7_runCommands rfl rfl rfl (by decide +kernel) ⟨Nat.le_of_ble_eq_true rfl, Nat.le_of_ble_eq_true rfl⟩) (q0 := 85) (ci := 5) rfl ((WW_model hh o).1 μ1).1 rfl hl.1 rfl (Nat.le_of_ble_eq_true rfl) dL_law_1339 ⟨Nat.le_of_lt hc, Nat.le_trans (Nat.le_add_right slots 6) hs⟩) (fun H locs hS => ?_)
  refine lv_icmp_eq (tgt := 1405) hx hb dL_law_1342 (by decide) (fun _ => ?_) (fun cc => absurd rfl cc)
  refine W.widen (k := cells + 1) (n := slots + 6) (Nat.le_succ _) (Nat.le_add_right _ _) ?_
  exact kend o H locs ls hS (lv_sub hl [0, 1, 2, 3, 4] rfl)
def St_23 (a1 a2 : Int32) (μ μ' : Mem) : Prop := (∃ (r : Int32) (μ1 : Mem), f_X6_undo 0 μ = some (r, μ1) ∧ f_X7_undo 85 μ1 = some (r, μ') ∧ f_X7_thrown 85 μ' = some 0) ∨ (f_X6_undo_t 0 μ = some 3 ∧ ∃ r : Int32, f_X7_undo 85 μ = some (r, μ') ∧ f_X7_thrown 85 μ' = some 1)
set_option maxHeartbeats 4000000 in
set_option maxRecDepth 100000 in
theorem k_L_23 (l : Launch) {D : va_G} {cI cG cL : ClassId} {A : Nat → Prop} {tC tS : Nat} {adE adK adV ad : Nat → Nat} (hE : EnOK (ENV tC tS adE adK adV A) A) (hst : l.stackTraces = false) {p : Program} {e : Env} {s : State} {m : MethodId} {below : List Frame} {meth : Method} {c : Code} {b L : Nat} {xs : Nat → Int32} (X : Cx p s m #[.ref b] c cL_law 7 vsL_law RL D (tyl cI cG cL) A (ENV tC tS adE adK adV A)) (hX : va_X b L xs s s.heap) (hbl : b < s.heap.size) (hbA : ¬ A b) {H : Heap} {locs : List Loc} {ls : Array Slot} {hh o : Int64} {μ : Mem} {i : Int32} (hS : HS D A (WW cI cG cL adE ad hh o μ) s.heap H locs) (hl : lv_has ls 7 [(0, .ref b), (1, .ref (ad 0)), (2, .ref (ad 85)), (3, .ref (ad 92)), (4, .int i)]) (h1 : vp_in (i + 1) L) (h2 : vp_in (i + 2) L) {cells slots : Nat} (hc : cells + 1 ≤ 601024) (hs : slots + 6 ≤ 7293034) {Q : State → Prop} {μ' : Mem} {hh' : Int64} (st : St_23 (xs (i + 1).toNatClampNeg) (xs (i + 2).toNatClampNeg) μ μ') (eh : hh = hh') (kend : ∀ (o : Int64) (H : Heap) (locs : List Loc) (ls : Array Slot), HS D A (WW cI cG cL adE ad hh' o μ') s.heap H locs → lv_has ls 7 [(0, .ref b), (1, .ref (ad 0)), (2, .ref (ad 85)), (3, .ref (ad 92)), (4, .int i)] → W p l e room_1 s m #[.ref b] below meth c H locs (cells + 1) (slots + 6) Q (F0 m 1405 ls [])) : W p l e room_1 s m #[.ref b] below meth c H locs cells slots Q (F0 m 1347 ls []) := by
  subst eh
  have hx := X.1.1
  have hb := X.1.2.1
  rcases st with ⟨r, μ1, f1, f2, f3⟩ | ⟨f1, r, f2, f3⟩
  · refine lv_aload_n hx hb dL_law_1347 rfl (lv_at hl 1 rfl) ?_
    refine lv_aload_n hx hb dL_law_1348 rfl (lv_at hl 3 rfl) ?_
    refine r_cim hS (r_runSW (mc := 0) (ms := 0) (As := [.ref (ad 0), .ref (ad 92)]) (rest := []) X hS (o_L_undo l hE (D := D) (cI := cI) (cG := cG) (cL := cL) (wo := WW cI cG cL adE ad hh) (ad := ad) (q := 0) (qo := 92) (o := o) (μ := μ) (fun o => WW_pg hh o) (WW_out hh) f1) (vx_cwSW (hh := [(0, 8, 11, 13)]) 2 X.1.2.2.2.2 hL_L_undo rfl rfl rfl (by decide +kernel) ⟨Nat.le_of_ble_eq_true rfl, Nat.le_of_ble_eq_true rfl⟩) rfl hl.1 rfl (Nat.le_of_ble_eq_true rfl) dL_law_1349 ⟨Nat.le_of_lt hc, Nat.le_trans (Nat.le_add_right slots 6) hs⟩) (fun H locs hS => ?_)
    refine lv_istore (lv' := [(5, .int 0), (0, .ref b), (1, .ref (ad 0)), (2, .ref (ad 85)), (3, .ref (ad 92)), (4, .int i)]) hx hb dL_law_1352 hl (by decide) rfl (fun ls hl => ?_)
    refine lv_aload_n hx hb dL_law_1354 rfl (lv_at hl 3 rfl) ?_
    refine r_ci hS (r_runV (As := []) (rest := []) X hS (c_X7_undo l hE (D := D) (cI := cI) (cG := cG) (cL := cL) (w := WW cI cG cL adE ad hh r.toInt64) (ad := ad) (WW_model hh r.toInt64) f2) (cwV 0 X.1.2.2.2.2 hL_X7_undo rfl rfl rfl (by decide +kernel) ⟨Nat.le_of_ble_eq_true rfl, Nat.le_of_ble_eq_true rfl⟩) (q0 := 85) (ci := 5) rfl ((WW_model hh r.toInt64).1 μ1).1 rfl hl.1 rfl (Nat.le_of_ble_eq_true rfl) dL_law_1355 ⟨Nat.le_of_lt hc, Nat.le_trans (Nat.le_add_right slots 6) hs⟩) (fun H locs hS => ?_)
    refine lv_istore (lv' := [(6, .int r), (5, .int 0), (0, .ref b), (1, .ref (ad 0)), (2, .ref (ad 85)), (3, .ref (ad 92)), (4, .int i)]) hx hb dL_law_1358 hl (by decide) rfl (fun ls hl => ?_)
    refine lv_aload_n hx hb dL_law_1360 rfl (lv_at hl 4 rfl) ?_
    refine r_ci hS (r_runV (As := []) (rest := []) X hS (c_X7_thrown l hE (D := D) (cI := cI) (cG := cG) (cL := cL) (w := WW cI cG cL adE ad hh r.toInt64) (ad := ad) (WW_model hh r.toInt64) f3) (cwV 0 X.1.2.2.2.2 hL_X7_thrown rfl rfl rfl (by decide +kernel) ⟨Nat.le_of_ble_eq_true rfl, Nat.le_of_ble_eq_true rfl⟩) (q0 := 85) (ci := 5) rfl ((WW_model hh r.toInt64).1 μ').1 rfl hl.1 rfl (Nat.le_of_ble_eq_true rfl) dL_law_1361 ⟨Nat.le_of_lt hc, Nat.le_trans (Nat.le_add_right slots 6) hs⟩) (fun H locs hS => ?_)
    refine lv_iload hx hb dL_law_1364 (lv_at hl 1 rfl) ?_
    refine lv_icmp_eq (tgt := 1371) hx hb dL_law_1366 (by decide) (fun _ => ?_) (fun cc => absurd rfl cc)
    refine lv_iload hx hb dL_law_1371 (lv_at hl 1 rfl) ?_
    refine lv_if_ne (tgt := 1388) hx hb dL_law_1373 (by decide) (fun cc => absurd rfl cc) (fun _ => ?_)
    refine lv_aload_n hx hb dL_law_1376 rfl (lv_at hl 5 rfl) ?_
    refine lv_iconst (v := 0) hx hb dL_law_1377 (by decide) ?_
    refine r_lald X hS (WW_out hh) dL_law_1378 ?_
    refine lv_iload hx hb dL_law_1379 (lv_at hl 0 rfl) ?_
    refine lv_i2l (v := r.toInt64) hx hb dL_law_1381 rfl ?_
    refine W.lcmp hx hb dL_law_1382 ?_
    refine lv_if_eq (tgt := 1388) hx hb dL_law_1383 (by decide) (fun _ => ?_) (fun cc => absurd (lg_self _) cc)
    refine lv_goto (tgt := 1405) hx hb dL_law_1388 (by decide) ?_
    refine W.widen (k := cells + 1) (n := slots + 6) (Nat.le_succ _) (Nat.le_add_right _ _) ?_
    exact kend r.toInt64 H locs ls hS (lv_sub hl [2, 3, 4, 5, 6] rfl)
  · refine lv_aload_n hx hb dL_law_1347 rfl (lv_at hl 1 rfl) ?_
    refine lv_aload_n hx hb dL_law_1348 rfl (lv_at hl 3 rfl) ?_
    refine r_cim hS (r_runSW (mc := 1) (ms := 6) (As := [.ref (ad 0), .ref (ad 92)]) (rest := []) X hS (x_L_undo_3 l hE (D := D) (cI := cI) (cG := cG) (cL := cL) (wo := WW cI cG cL adE ad hh) (ad := ad) (q := 0) (qo := 92) (o := o) (μ := μ) (fun o => WW_pg hh o) (WW_out hh) hst f1) (vx_cwSW (hh := [(0, 8, 11, 13)]) 2 X.1.2.2.2.2 hL_L_undo rfl rfl rfl (by decide +kernel) ⟨Nat.le_of_ble_eq_true rfl, Nat.le_of_ble_eq_true rfl⟩) rfl hl.1 rfl (Nat.le_of_ble_eq_true rfl) dL_law_1349 ⟨hc, hs⟩) (fun H locs hS => ?_)
    refine lv_istore (lv' := [(5, .int 1), (0, .ref b), (1, .ref (ad 0)), (2, .ref (ad 85)), (3, .ref (ad 92)), (4, .int i)]) hx hb dL_law_1352 hl (by decide) rfl (fun ls hl => ?_)
    refine lv_aload_n hx hb dL_law_1354 rfl (lv_at hl 3 rfl) ?_
    refine r_ci hS (r_runV (As := []) (rest := []) X hS (c_X7_undo l hE (D := D) (cI := cI) (cG := cG) (cL := cL) (w := WW cI cG cL adE ad hh o) (ad := ad) (WW_model hh o) f2) (cwV 0 X.1.2.2.2.2 hL_X7_undo rfl rfl rfl (by decide +kernel) ⟨Nat.le_of_ble_eq_true rfl, Nat.le_of_ble_eq_true rfl⟩) (q0 := 85) (ci := 5) rfl ((WW_model hh o).1 μ).1 rfl hl.1 rfl (Nat.le_of_ble_eq_true rfl) dL_law_1355 ⟨hc, hs⟩) (fun H locs hS => ?_)
    refine lv_istore (lv' := [(6, .int r), (5, .int 1), (0, .ref b), (1, .ref (ad 0)), (2, .ref (ad 85)), (3, .ref (ad 92)), (4, .int i)]) hx hb dL_law_1358 hl (by decide) rfl (fun ls hl => ?_)
    refine lv_aload_n hx hb dL_law_1360 rfl (lv_at hl 4 rfl) ?_
    refine r_ci hS (r_runV (As := []) (rest := []) X hS (c_X7_thrown l hE (D := D) (cI := cI) (cG := cG) (cL := cL) (w := WW cI cG cL adE ad hh o) (ad := ad) (WW_model hh o) f3) (cwV 0 X.1.2.2.2.2 hL_X7_thrown rfl rfl rfl (by decide +kernel) ⟨Nat.le_of_ble_eq_true rfl, Nat.le_of_ble_eq_true rfl⟩) (q0 := 85) (ci := 5) rfl ((WW_model hh o).1 μ').1 rfl hl.1 rfl (Nat.le_of_ble_eq_true rfl) dL_law_1361 ⟨hc, hs⟩) (fun H locs hS => ?_)
    refine lv_iload hx hb dL_law_1364 (lv_at hl 1 rfl) ?_
    refine lv_icmp_eq (tgt := 1371) hx hb dL_law_1366 (by decide) (fun _ => ?_) (fun cc => absurd rfl cc)
    refine lv_iload hx hb dL_law_1371 (lv_at hl 1 rfl) ?_
    refine lv_if_ne (tgt := 1388) hx hb dL_law_1373 (by decide) (fun _ => ?_) (fun cc => absurd cc (by decide))
    refine lv_goto (tgt := 1405) hx hb dL_law_1388 (by decide) ?_
    exact kend o H locs ls hS (lv_sub hl [2, 3, 4, 5, 6] rfl)
def St_24 (hh hh' : Int64) (μ μ' : Mem) : Prop := ∃ r : Int64, f_X6_digest 0 μ = some r ∧ f_X7_digest 85 μ hh = some (r, μ', hh')
set_option maxHeartbeats 4000000 in
set_option maxRecDepth 100000 in
theorem k_L_24 (l : Launch) {D : va_G} {cI cG cL : ClassId} {A : Nat → Prop} {tC tS : Nat} {adE adK adV ad : Nat → Nat} (hE : EnOK (ENV tC tS adE adK adV A) A) (hst : l.stackTraces = false) {p : Program} {e : Env} {s : State} {m : MethodId} {below : List Frame} {meth : Method} {c : Code} {b L : Nat} {xs : Nat → Int32} (X : Cx p s m #[.ref b] c cL_law 7 vsL_law RL D (tyl cI cG cL) A (ENV tC tS adE adK adV A)) (hX : va_X b L xs s s.heap) (hbl : b < s.heap.size) (hbA : ¬ A b) {H : Heap} {locs : List Loc} {ls : Array Slot} {hh o : Int64} {μ : Mem} {i : Int32} (hS : HS D A (WW cI cG cL adE ad hh o μ) s.heap H locs) (hl : lv_has ls 7 [(0, .ref b), (1, .ref (ad 0)), (2, .ref (ad 85)), (3, .ref (ad 92)), (4, .int i)]) (h1 : vp_in (i + 1) L) (h2 : vp_in (i + 2) L) {cells slots : Nat} (hc : cells + 1 ≤ 601024) (hs : slots + 6 ≤ 7293034) {Q : State → Prop} {μ' : Mem} {hh' : Int64} (st : St_24 hh hh' μ μ') (kend : ∀ (o : Int64) (H : Heap) (locs : List Loc) (ls : Array Slot), HS D A (WW cI cG cL adE ad hh' o μ') s.heap H locs → lv_has ls 7 [(0, .ref b), (1, .ref (ad 0)), (2, .ref (ad 85)), (3, .ref (ad 92)), (4, .int i)] → W p l e room_1 s m #[.ref b] below meth c H locs (cells + 1) (slots + 6) Q (F0 m 1405 ls [])) : W p l e room_1 s m #[.ref b] below meth c H locs cells slots Q (F0 m 1391 ls []) := by
  have hx := X.1.1
  have hb := X.1.2.1
  obtain ⟨r, f1, f2⟩ := st
  refine lv_aload_n hx hb dL_law_1391 rfl (lv_at hl 1 rfl) ?_
  refine r_cl hS (r_runV (As := []) (rest := []) X hS (c_X6_digest l hE (D := D) (cI := cI) (cG := cG) (cL := cL) (w := WW cI cG cL adE ad hh o) (ad := ad) (WW_pg hh o) f1) (cwV 0 X.1.2.2.2.2 hL_X6_digest rfl rfl rfl (by decide +kernel) ⟨Nat.le_of_ble_eq_true rfl, Nat.le_of_ble_eq_true rfl⟩) (q0 := 0) (ci := 4) rfl ((WW_pg hh o).1 μ).1 rfl hl.1 rfl (Nat.le_of_ble_eq_true rfl) dL_law_1392 ⟨Nat.le_of_lt hc, Nat.le_trans (Nat.le_add_right slots 6) hs⟩) (fun H locs hS => ?_)
  refine lv_aload_n hx hb dL_law_1395 rfl (lv_at hl 2 rfl) ?_
  refine r_cl hS (r_runV (As := []) (rest := [.long r]) X hS (c_X7_digest l hE (D := D) (cI := cI) (cG := cG) (cL := cL) (w := fun h => WW cI cG cL adE ad h o) (ad := ad) (μ := μ) (fun h => WW_model h o) (WW_hash o) f2) (cwV 0 X.1.2.2.2.2 hL_X7_digest rfl rfl rfl (by decide +kernel) ⟨Nat.le_of_ble_eq_true rfl, Nat.le_of_ble_eq_true rfl⟩) (q0 := 85) (ci := 5) rfl ((WW_model hh o).1 μ).1 rfl hl.1 rfl (Nat.le_of_ble_eq_true rfl) dL_law_1396 ⟨Nat.le_of_lt hc, Nat.le_trans (Nat.le_add_right slots 6) hs⟩) (fun H locs hS => ?_)
  refine W.lcmp hx hb dL_law_1399 ?_
  refine lv_if_eq (tgt := 1405) hx hb dL_law_1400 (by decide) (fun _ => ?_) (fun cc => absurd (lg_self _) cc)
  refine W.widen (k := cells + 1) (n := slots + 6) (Nat.le_succ _) (Nat.le_add_right _ _) ?_
  exact kend o H locs ls hS (lv_sub hl [0, 1, 2, 3, 4] rfl)
def Step (op a1 a2 : Int32) (μ : Mem) (hh : Int64) (μ' : Mem) (hh' : Int64) : Prop := if op = 0 then (St_0 a1 a2 μ μ' ∧ hh' = hh) else (if op = 1 then (St_1 a1 a2 μ μ' ∧ hh' = hh) else (if op = 2 then (St_2 a1 a2 μ μ' ∧ hh' = hh) else (if op = 3 then (St_3 a1 a2 μ μ' ∧ hh' = hh) else (if op = 4 then (St_4 a1 a2 μ μ' ∧ hh' = hh) else (if op = 5 then (St_5 a1 a2 μ μ' ∧ hh' = hh) else (if op = 6 then (St_6 a1 a2 μ μ' ∧ hh' = hh) else (if op = 7 then (St_7 a1 a2 μ μ' ∧ hh' = hh) else (if op = 8 then (St_8 a1 a2 μ μ' ∧ hh' = hh) else (if op = 9 then (St_9 a1 a2 μ μ' ∧ hh' = hh) else (if op = 10 then (St_10 a1 a2 μ μ' ∧ hh' = hh) else (if op = 11 then (St_11 a1 a2 μ μ' ∧ hh' = hh) else (if op = 12 then (St_12 a1 a2 μ μ' ∧ hh' = hh) else (if op = 13 then (St_13 a1 a2 μ μ' ∧ hh' = hh) else (if op = 14 then (St_14 a1 a2 μ μ' ∧ hh' = hh) else (if op = 15 then (St_15 μ μ' ∧ hh' = hh) else (if op = 16 then (St_16 a1 a2 μ μ' ∧ hh' = hh) else (if op = 17 then (St_17 a1 a2 μ μ' ∧ hh' = hh) else (if op = 18 then (St_18 a1 a2 μ μ' ∧ hh' = hh) else (if op = 19 then (St_19 a1 a2 μ μ' ∧ hh' = hh) else (if op = 20 then (St_20 a1 a2 μ μ' ∧ hh' = hh) else (if op = 21 then (St_21 μ μ' ∧ hh' = hh) else (if op = 22 then (St_22 μ μ' ∧ hh' = hh) else (if op = 23 then (St_23 a1 a2 μ μ' ∧ hh' = hh) else (if op = 24 then St_24 hh hh' μ μ' else ((μ' = μ ∧ hh' = hh))))))))))))))))))))))))))
