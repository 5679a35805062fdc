theorem loop_go {L k : Nat} (hL : L ≤ 1536) (hk : 3 * k ≤ L) (h : ¬ nI L - 3 < nI (3 * k)) : 3 * k + 3 ≤ L := by
  by_cases c : L < 3
  · exfalso
    have hk0 : k = 0 := by omega
    subst hk0
    have hc : L = 0 ∨ L = 1 ∨ L = 2 := by omega
    rcases hc with rfl | rfl | rfl <;> exact h (by decide)
  · obtain ⟨j, rfl⟩ : ∃ j, L = j + 3 := ⟨L - 3, by omega⟩
    have e : nI (j + 3) - 3 = nI j := by
      rw [← nI_add]
      exact Int32.add_sub_cancel _ _
    rw [e] at h
    rcases Nat.lt_or_ge j (3 * k) with q | q
    · exact absurd (nI_lt q (by omega)) h
    · omega
set_option maxHeartbeats 8000000 in
set_option maxRecDepth 100000 in
theorem law_loop (l : Launch) {D : va_G} {cI cG cL : ClassId} {tC tS : Nat} {adE adK adV ad : Nat → Nat} {p : Program} {e : Env} {s : State} {m : MethodId} {below : List Frame} {meth : Method} {c : Code} {b L : Nat} {xs : Nat → Int32} {A : Nat → Prop} (eA : A = fun q => s.heap.size ≤ q) (hE : EnOK (ENV tC tS adE adK adV A) A) (hst : l.stackTraces = false) (X : Cx p s m #[.ref b] c cL_law 7 vsL_law RL D (tyl cI cG cL) A (ENV tC tS adE adK adV A)) (hX : va_X b L xs s s.heap) (hbl : b < s.heap.size) (hr : meth.sig.returnType = ret) (hlk : meth.locks = false) (hL : L ≤ 1536) (J : Nat → Mem → Int64 → Prop) (PS : ∀ n μ hh, n < 512 → J n μ hh → ∀ op a1 a2, ∃ μ' hh', Step op a1 a2 μ hh μ' hh' ∧ J (n + 1) μ' hh') : ∀ (f k : Nat), 3 * k ≤ L → L < 3 * k + 3 * f → ∀ (hh o : Int64) (μ : Mem) (H : Heap) (locs : List Loc) (ls : Array Slot) (cells slots : Nat), J k μ hh → cells ≤ 200 + k → slots ≤ 20000 + 6 * k → HS D A (WW cI cG cL adE ad hh o μ) s.heap H locs → lv_has ls 7 [(0, .ref b), (1, .ref (ad 0)), (2, .ref (ad 85)), (3, .ref (ad 92)), (4, .int (nI (3 * k)))] → W p l e room_1 s m #[.ref b] below meth c H locs cells slots (lw_Z below #[.ref b] s) (F0 m 23 ls []) := by
  have hx := X.1.1
  have hb := X.1.2.1
  have hbA : ¬ A b := by rw [eA]; exact Nat.not_le.mpr hbl
  intro f
  induction f with
  | zero => intro k h1 h2; exact absurd h2 (by omega)
  | succ f ih =>
    intro k hk hf hh o μ H locs ls cells slots hJ hc hs hS hl
    refine lv_iload hx hb dL_law_23 (lv_at hl 4 rfl) ?_
    refine lv_aload_n hx hb dL_law_25 rfl (lv_at hl 0 rfl) ?_
    refine va_slen hx hb hX hbl hbA hS.2.2 dL_law_26 ?_
    refine lv_iconst (v := 3) hx hb dL_law_27 (by decide) ?_
    refine lv_isub hx hb dL_law_28 ?_
    refine lv_icmp_gt (tgt := 1411) hx hb dL_law_29 (by decide) (fun cc => ?_) (fun cc => ?_)
    · refine lv_iconst (v := 1) hx hb dL_law_1411 (by decide) ?_
      refine va_forget (fun q hq => by have z := hS.2.2.2.2 q hq; rw [eA] at z; exact z) ?_
      refine W.widen (k := 601024) (n := 7293034) (by omega) (by omega) ?_
      exact lw_ret hx hb hr hlk dL_law_1412
    · have h3 : 3 * k + 3 ≤ L := loop_go hL hk cc
      have h0 : vp_in (nI (3 * k)) L := vp_in_nI (by omega) (by omega)
      have h1 : vp_in (nI (3 * k) + 1) L := by rw [nI_1]; exact vp_in_nI (by omega) (by omega)
      have h2 : vp_in (nI (3 * k) + 2) L := by rw [show (2 : Int32) = nI 2 from rfl, nI_add]; exact vp_in_nI (by omega) (by omega)
      refine lv_aload_n hx hb dL_law_32 rfl (lv_at hl 0 rfl) ?_
      refine lv_iload hx hb dL_law_33 (lv_at hl 4 rfl) ?_
      refine va_sld hx hb hX hbl hbA hS.2.2 h0 dL_law_35 ?_
      refine lv_bipush (v := 31) hx hb dL_law_36 (by decide) ?_
      refine lv_iand hx hb dL_law_38 ?_
      generalize (xs (nI (3 * k)).toNatClampNeg &&& 31) = op
      obtain ⟨μ', hh', hs, hJ'⟩ := PS k μ hh (by omega) hJ op (xs (nI (3 * k) + 1).toNatClampNeg) (xs (nI (3 * k) + 2).toNatClampNeg)
      have kend : ∀ (o : Int64) (H : Heap) (locs : List Loc) (ls : Array Slot), HS D A (WW cI cG cL adE ad hh' o μ') s.heap H locs → lv_has ls 7 [(0, .ref b), (1, .ref (ad 0)), (2, .ref (ad 85)), (3, .ref (ad 92)), (4, .int (nI (3 * k)))] → W p l e room_1 s m #[.ref b] below meth c H locs (cells + 1) (slots + 6) (lw_Z below #[.ref b] s) (F0 m 1405 ls []) := by
        intro o H locs ls hS hl
        refine lv_iinc (v := nI (3 * (k + 1))) (lv' := [(4, .int (nI (3 * (k + 1)))), (0, .ref b), (1, .ref (ad 0)), (2, .ref (ad 85)), (3, .ref (ad 92))]) hx hb dL_law_1405 hl (k := 4) rfl (by rw [show Int32.ofInt 3 = nI 3 from rfl, nI_add, Nat.mul_add]) (by decide) rfl (fun ls hl => ?_)
        refine lv_goto (tgt := 23) hx hb dL_law_1408 (by decide) ?_
        exact ih (k + 1) (by omega) (by omega) hh' o μ' H locs ls _ _ hJ' (by omega) (by omega) hS (lv_sub hl [1, 2, 3, 4, 0] rfl)
      unfold Step at hs
      by_cases cc0 : op = 0
      · rw [if_pos cc0] at hs
        rw [cc0]
        refine lv_tableIn (off := 113) (tgt := 152) hx hb dL_law_39 (by decide) (by decide) rfl (by decide) ?_
        exact k_L_0 l hE hst X hX hbl hbA hS hl h1 h2 (by omega) (by omega) hs.1 hs.2.symm kend
      · rw [if_neg cc0] at hs
        by_cases cc1 : op = 1
        · rw [if_pos cc1] at hs
          rw [cc1]
          refine lv_tableIn (off := 157) (tgt := 196) hx hb dL_law_39 (by decide) (by decide) rfl (by decide) ?_
          exact k_L_1 l hE hst X hX hbl hbA hS hl h1 h2 (by omega) (by omega) hs.1 hs.2.symm kend
        · rw [if_neg cc1] at hs
          by_cases cc2 : op = 2
          · rw [if_pos cc2] at hs
            rw [cc2]
            refine lv_tableIn (off := 225) (tgt := 264) hx hb dL_law_39 (by decide) (by decide) rfl (by decide) ?_
            exact k_L_2 l hE hst X hX hbl hbA hS hl h1 h2 (by omega) (by omega) hs.1 hs.2.symm kend
          · rw [if_neg cc2] at hs
            by_cases cc3 : op = 3
            · rw [if_pos cc3] at hs
              rw [cc3]
              refine lv_tableIn (off := 281) (tgt := 320) hx hb dL_law_39 (by decide) (by decide) rfl (by decide) ?_
              exact k_L_3 l hE hst X hX hbl hbA hS hl h1 h2 (by omega) (by omega) hs.1 hs.2.symm kend
            · rw [if_neg cc3] at hs
              by_cases cc4 : op = 4
              · rw [if_pos cc4] at hs
                rw [cc4]
                refine lv_tableIn (off := 337) (tgt := 376) hx hb dL_law_39 (by decide) (by decide) rfl (by decide) ?_
                exact k_L_4 l hE hst X hX hbl hbA hS hl h1 h2 (by omega) (by omega) hs.1 hs.2.symm kend
              · rw [if_neg cc4] at hs
                by_cases cc5 : op = 5
                · rw [if_pos cc5] at hs
                  rw [cc5]
                  refine lv_tableIn (off := 381) (tgt := 420) hx hb dL_law_39 (by decide) (by decide) rfl (by decide) ?_
                  exact k_L_5 l hE hst X hX hbl hbA hS hl h1 h2 (by omega) (by omega) hs.1 hs.2.symm kend
                · rw [if_neg cc5] at hs
                  by_cases cc6 : op = 6
                  · rw [if_pos cc6] at hs
                    rw [cc6]
                    refine lv_tableIn (off := 425) (tgt := 464) hx hb dL_law_39 (by decide) (by decide) rfl (by decide) ?_
                    exact k_L_6 l hE hst X hX hbl hbA hS hl h1 h2 (by omega) (by omega) hs.1 hs.2.symm kend
                  · rw [if_neg cc6] at hs
                    by_cases cc7 : op = 7
                    · rw [if_pos cc7] at hs
                      rw [cc7]
                      refine lv_tableIn (off := 481) (tgt := 520) hx hb dL_law_39 (by decide) (by decide) rfl (by decide) ?_
                      exact k_L_7 l hE hst X hX hbl hbA hS hl h1 h2 (by omega) (by omega) hs.1 hs.2.symm kend
                    · rw [if_neg cc7] at hs
                      by_cases cc8 : op = 8
                      · rw [if_pos cc8] at hs
                        rw [cc8]
                        refine lv_tableIn (off := 537) (tgt := 576) hx hb dL_law_39 (by decide) (by decide) rfl (by decide) ?_
                        exact k_L_8 l hE hst X hX hbl hbA hS hl h1 h2 (by omega) (by omega) hs.1 hs.2.symm kend
                      · rw [if_neg cc8] at hs
                        by_cases cc9 : op = 9
                        · rw [if_pos cc9] at hs
                          rw [cc9]
                          refine lv_tableIn (off := 593) (tgt := 632) hx hb dL_law_39 (by decide) (by decide) rfl (by decide) ?_
                          exact k_L_9 l hE hst X hX hbl hbA hS hl h1 h2 (by omega) (by omega) hs.1 hs.2.symm kend
                        · rw [if_neg cc9] at hs
                          by_cases cc10 : op = 10
                          · rw [if_pos cc10] at hs
                            rw [cc10]
                            refine lv_tableIn (off := 661) (tgt := 700) hx hb dL_law_39 (by decide) (by decide) rfl (by decide) ?_
                            exact k_L_10 l hE hst X hX hbl hbA hS hl h1 h2 (by omega) (by omega) hs.1 hs.2.symm kend
                          · rw [if_neg cc10] at hs
                            by_cases cc11 : op = 11
                            · rw [if_pos cc11] at hs
                              rw [cc11]
                              refine lv_tableIn (off := 729) (tgt := 768) hx hb dL_law_39 (by decide) (by decide) rfl (by decide) ?_
                              exact k_L_11 l hE hst X hX hbl hbA hS hl h1 h2 (by omega) (by omega) hs.1 hs.2.symm kend
                            · rw [if_neg cc11] at hs
                              by_cases cc12 : op = 12
                              · rw [if_pos cc12] at hs
                                rw [cc12]
                                refine lv_tableIn (off := 797) (tgt := 836) hx hb dL_law_39 (by decide) (by decide) rfl (by decide) ?_
                                exact k_L_12 l hE hst X hX hbl hbA hS hl h1 h2 (by omega) (by omega) hs.1 hs.2.symm kend
                              · rw [if_neg cc12] at hs
                                by_cases cc13 : op = 13
                                · rw [if_pos cc13] at hs
                                  rw [cc13]
                                  refine lv_tableIn (off := 865) (tgt := 904) hx hb dL_law_39 (by decide) (by decide) rfl (by decide) ?_
                                  exact k_L_13 l hE hst X hX hbl hbA hS hl h1 h2 (by omega) (by omega) hs.1 hs.2.symm kend
                                · rw [if_neg cc13] at hs
                                  by_cases cc14 : op = 14
                                  · rw [if_pos cc14] at hs
                                    rw [cc14]
                                    refine lv_tableIn (off := 933) (tgt := 972) hx hb dL_law_39 (by decide) (by decide) rfl (by decide) ?_
                                    exact k_L_14 l hE hst X hX hbl hbA hS hl h1 h2 (by omega) (by omega) hs.1 hs.2.symm kend
                                  · rw [if_neg cc14] at hs
                                    by_cases cc15 : op = 15
                                    · rw [if_pos cc15] at hs
                                      rw [cc15]
                                      refine lv_tableIn (off := 989) (tgt := 1028) hx hb dL_law_39 (by decide) (by decide) rfl (by decide) ?_
                                      exact k_L_15 l hE hst X hX hbl hbA hS hl h1 h2 (by omega) (by omega) hs.1 hs.2.symm kend
                                    · rw [if_neg cc15] at hs
                                      by_cases cc16 : op = 16
                                      · rw [if_pos cc16] at hs
                                        rw [cc16]
                                        refine lv_tableIn (off := 1002) (tgt := 1041) hx hb dL_law_39 (by decide) (by decide) rfl (by decide) ?_
                                        exact k_L_16 l hE hst X hX hbl hbA hS hl h1 h2 (by omega) (by omega) hs.1 hs.2.symm kend
                                      · rw [if_neg cc16] at hs
                                        by_cases cc17 : op = 17
                                        · rw [if_pos cc17] at hs
                                          rw [cc17]
                                          refine lv_tableIn (off := 1058) (tgt := 1097) hx hb dL_law_39 (by decide) (by decide) rfl (by decide) ?_
                                          exact k_L_17 l hE hst X hX hbl hbA hS hl h1 h2 (by omega) (by omega) hs.1 hs.2.symm kend
                                        · rw [if_neg cc17] at hs
                                          by_cases cc18 : op = 18
                                          · rw [if_pos cc18] at hs
                                            rw [cc18]
                                            refine lv_tableIn (off := 1114) (tgt := 1153) hx hb dL_law_39 (by decide) (by decide) rfl (by decide) ?_
                                            exact k_L_18 l hE hst X hX hbl hbA hS hl h1 h2 (by omega) (by omega) hs.1 hs.2.symm kend
                                          · rw [if_neg cc18] at hs
                                            by_cases cc19 : op = 19
                                            · rw [if_pos cc19] at hs
                                              rw [cc19]
                                              refine lv_tableIn (off := 1170) (tgt := 1209) hx hb dL_law_39 (by decide) (by decide) rfl (by decide) ?_
                                              exact k_L_19 l hE hst X hX hbl hbA hS hl h1 h2 (by omega) (by omega) hs.1 hs.2.symm kend
                                            · rw [if_neg cc19] at hs
                                              by_cases cc20 : op = 20
                                              · rw [if_pos cc20] at hs
                                                rw [cc20]
                                                refine lv_tableIn (off := 1226) (tgt := 1265) hx hb dL_law_39 (by decide) (by decide) rfl (by decide) ?_
                                                exact k_L_20 l hE hst X hX hbl hbA hS hl h1 h2 (by omega) (by omega) hs.1 hs.2.symm kend
                                              · rw [if_neg cc20] at hs
                                                by_cases cc21 : op = 21
                                                · rw [if_pos cc21] at hs
                                                  rw [cc21]
                                                  refine lv_tableIn (off := 1282) (tgt := 1321) hx hb dL_law_39 (by decide) (by decide) rfl (by decide) ?_
                                                  exact k_L_21 l hE hst X hX hbl hbA hS hl h1 h2 (by omega) (by omega) hs.1 hs.2.symm kend
                                                · rw [if_neg cc21] at hs
                                                  by_cases cc22 : op = 22
                                                  · rw [if_pos cc22] at hs
                                                    rw [cc22]
                                                    refine lv_tableIn (off := 1295) (tgt := 1334) hx hb dL_law_39 (by decide) (by decide) rfl (by decide) ?_
                                                    exact k_L_22 l hE hst X hX hbl hbA hS hl h1 h2 (by omega) (by omega) hs.1 hs.2.symm kend
                                                  · rw [if_neg cc22] at hs
                                                    by_cases cc23 : op = 23
                                                    · rw [if_pos cc23] at hs
                                                      rw [cc23]
                                                      refine lv_tableIn (off := 1308) (tgt := 1347) hx hb dL_law_39 (by decide) (by decide) rfl (by decide) ?_
                                                      exact k_L_23 l hE hst X hX hbl hbA hS hl h1 h2 (by omega) (by omega) hs.1 hs.2.symm kend
                                                    · rw [if_neg cc23] at hs
                                                      by_cases cc24 : op = 24
                                                      · rw [if_pos cc24] at hs
                                                        rw [cc24]
                                                        refine lv_tableIn (off := 1352) (tgt := 1391) hx hb dL_law_39 (by decide) (by decide) rfl (by decide) ?_
                                                        exact k_L_24 l hE hst X hX hbl hbA hS hl h1 h2 (by omega) (by omega) hs kend
                                                      · rw [if_neg cc24] at hs
                                                        obtain ⟨rfl, rfl⟩ := hs
                                                        refine lv_tableOut (tgt := 1405) hx hb dL_law_39 (sw_0_24 cc0 cc1 cc2 cc3 cc4 cc5 cc6 cc7 cc8 cc9 cc10 cc11 cc12 cc13 cc14 cc15 cc16 cc17 cc18 cc19 cc20 cc21 cc22 cc23 cc24) (by decide) ?_
                                                        exact W.widen (k := cells + 1) (n := slots + 6) (Nat.le_succ _) (Nat.le_add_right _ _) (kend o H locs ls hS hl)
