/-! PURE, put and remove on both sides -/
section PPUT
variable {q g : Nat} {m μ μ' : Mem} {p p' P : Nat → Int32} {l l' b b' w' n s k d d' f pl j i : Nat} {key val kind x w : Int32} {B : Int}
theorem plc_cg (h2 : nB p' d' 2 = nB p d 2) (hk : ∀ i, i < nB p d 2 → nB p' d' (6 + i) = nB p d (6 + i) ∧ gB p' (nB p d (6 + i)) 6 = gB p (nB p d (6 + i)) 6) : plc p' d' key = plc p d key := by
  unfold plc
  rw [h2]
  split
  · rfl
  · refine congrArg some (lp_cg _ _ _ (fun j h1 h3 a => ?_))
    unfold pstep
    rw [(hk j (by omega)).1, (hk j (by omega)).2]
theorem ein_cg (h2 : nB p' l' 2 = nB p l 2) (hk : ∀ i, i < nB p l 2 → gB p' l' (6 + 2 * i) = gB p l (6 + 2 * i)) : ein p' l' key = ein p l key := by
  unfold ein
  rw [h2]
  refine sr_cg _ _ (fun j h1 h3 => ?_)
  show decide (gB p' l' (6 + 2 * j) = key) = decide (gB p l (6 + 2 * j) = key)
  rw [hk j (by omega)]
theorem plc_none (h : plc p d key = none) : nB p d 2 = 0 := by
  unfold plc at h
  split at h
  · assumption
  · cases h
theorem RG.put (h : RG g μ p) (hi : INV B p) (hd : p 466 = 1) (hb : bofn p key = some n) (hm : n ≤ many p) : ∃ (v : Int32) (p' : Nat → Int32) (μ' : Mem), f_X4_putEntry g key val μ = some (v, μ') ∧ RG g μ' p' ∧ GFr g μ μ' ∧ INV B p' ∧ ∀ (q : Nat) (m : Mem) (f : Nat → Int32), ∃ f', f_X7_doPut_b51 q key val (nI n) (rst (rst m (q + 5) f) (q + 1) p) = some (v, rst (rst m (q + 5) f') (q + 1) p') := by
  have hdd := hi.dd.2
  have hn3 := bofn_le hb
  have hmm : many p ≤ 32 := ct_le 32
  cases e : plc p (drd p) key with
  | none =>
    rw [bofn_0 e] at hb
    have hbn := Option.some.inj hb
    obtain ⟨p1, μ1, a1, a2, a3, a4, a5, a6, a7, a8, a9⟩ := h.dir hi hd (by omega)
    have epl : plc p1 (fdp p1) key = none := (plc_cg a8 (fun i hi2 => ⟨(a9 i hi2).1, (a9 i hi2).2 6 (by decide)⟩)).trans e
    have hb1 := a2.dbed a4 a5
    obtain ⟨p2, b, μ2, μ3, μ4, b1, b2, b3, b4, b5, b6, b7, b8⟩ := a2.newLeaf (key := key) (val := val) a4 a5 (plc_none epl) (by omega)
    refine ⟨-1000, p2, μ4, ?_, b5, a3.tr b6, b7, fun q m f => ⟨f, ?_⟩⟩
    · unfold f_X4_putEntry
      rw [a1, Option.bind_some, hb1, a2.1.leafPlace a5.2.2.1, epl, Option.bind_some, if_pos (show oI (-1000) none = -1000 from rfl), b1, bn2_some, b2, Option.bind_some, b3, b4, Option.bind_some]
    · obtain ⟨m1, m2, c1, c2, c3⟩ := b8 q (rst m (q + 5) f)
      unfold f_X7_doPut_b51
      rw [if_neg (not_none (nI_pos' (by omega))), manyToDig_n, rst_eq, Option.bind_some, if_pos (nI_le hm (by omega)), a6, bn2_some, placeFor_n (by rw [rst_eq]; exact a5.2.2.1), rst_eq, epl, Option.bind_some, if_neg (show ¬ (0 : Int32) ≤ oI (-1) none by decide), c1, bn2_some, c2, Option.bind_some, c3, Option.bind_some]
  | some k =>
    rw [bofn_k e] at hb
    have hk := plc_lt e
    obtain ⟨l, hl⟩ : ∃ l, nB p (drd p) (6 + k) = l := ⟨_, rfl⟩
    rw [hl] at hb
    have hcn : dN p + cN p l ≤ n ∧ (ein p l key = none ∧ nB p l 2 = 4 → nB p (drd p) 2 ≠ 6 ∧ dN p + cN p l + 1 ≤ n) := by
      split at hb
      · split at hb
        · cases hb
        · rename_i z1 z2
          have := Option.some.inj hb
          exact ⟨by omega, fun _ => ⟨z2, by omega⟩⟩
      · rename_i z1
        have := Option.some.inj hb
        exact ⟨by omega, fun z => absurd z z1⟩
    obtain ⟨p1, μ1, a1, a2, a3, a4, a5, a6, a7, a8, a9⟩ := h.dir hi hd (by omega)
    have epl : plc p1 (fdp p1) key = some k := (plc_cg a8 (fun i hi2 => ⟨(a9 i hi2).1, (a9 i hi2).2 6 (by decide)⟩)).trans e
    have hb1 := a2.dbed a4 a5
    have hk1 : k < nB p1 (fdp p1) 2 := by rw [a8]; exact hk
    have hl1 : nB p1 (fdp p1) (6 + k) = l := (a9 k hk).1.trans hl
    have hc1 : ∀ w, w < 14 → gB p1 l w = gB p l w := fun w hw => by
      have z := (a9 k hk).2 w hw
      rw [hl] at z
      exact z
    have ecn : cN p1 l = cN p l := by
      unfold cN
      rw [hc1 4 (by decide)]
    obtain ⟨p2, μ2, l1, b1, b2, b3, b4, b5, b6, b7, b8, b9, b10, b11, b12⟩ := a2.ownLeaf a4 a5 hk1 hl1 (by omega)
    have hlp : LeafOK p l := by
      have z := (hdd.2.2.2.2.2.1 k hk).2
      rw [hl] at z
      exact z
    have l4 := hlp.2.2.2.2.2.1
    have hc2 : ∀ w, w < 14 → (w = 2 ∨ 6 ≤ w) → gB p2 l1 w = gB p l w := fun w hw hz => (b12 w hw hz).trans (hc1 w hw)
    have en2 : nB p2 l1 2 = nB p l 2 := nB_of (hc2 2 (by decide) (Or.inl rfl))
    have eei : ein p2 l1 key = ein p l key := ein_cg en2 (fun i hi2 => hc2 _ (by omega) (Or.inr (by omega)))
    rw [← b6] at b9 b10
    have hk2 : k < nB p2 (fdp p2) 2 := by rw [b9, b6]; exact hk1
    have h6 := a5.2.2.1.2.2.2.2.1
    obtain ⟨t1, t2, t3, t4, t5, t6⟩ := b5.leafs hk2
    rw [b10] at t1 t2 t3 t4 t5 t6
    have hcls : f_X4_putEntry g key val μ = (f_X1_entryPlace (g + 1) (nI l1) key μ2).bind (fun v5 => (if v5 = (-1000) then (f_X1_insertEntry (g + 1) (nI l1) key val μ2).bind (fun μ6 => (f_X1_sizeOf (g + 1) (nI l1) μ6).bind (fun v7 => (if v7 ≤ 4 then f_X4_putEntry_b174 g μ6 else bn2 (f_X4_dig g 0 μ6) (fun v8 μ9 => (f_X1_splitLeaf (g + 1) (nI l1) v8 μ9).bind (fun μ10 => (f_X1_insertLeaf (g + 1) (μ10 g 7) (nI k + 1) v8 μ10).bind (fun μ11 => f_X4_putEntry_b174 g μ11)))))) else (f_X1_valueAt (g + 1) (nI l1) v5 μ2).bind (fun v12 => (f_X1_setEntry (g + 1) (nI l1) v5 key val μ2).bind (fun μ13 => (some (v12, μ13)))))) := by
      unfold f_X4_putEntry
      rw [a1, Option.bind_some, hb1, a2.1.leafPlace a5.2.2.1, epl, Option.bind_some, if_neg (show ¬ oI (-1000) (some k) = -1000 from not_none (nI_pos' (by omega))), show oI (-1000) (some k) = nI k from rfl, b1, bn2_some]
    have hmod : ∀ (q : Nat) (m : Mem), f_X7_doPut_b51 q key val (nI n) (rst m (q + 1) p) = (f_X7_placeIn q (nI l1) key (rst m (q + 1) p2)).bind (fun v15 => (if v15 < 0 then (f_X7_of q (nI l1) 2 (rst m (q + 1) p2)).bind (fun v16 => (if v16 = 4 then (f_X7_splits q (nI (fdp p1)) (nI k) (nI l1) key val (rst m (q + 1) p2)).bind (fun μ18 => f_X7_doPut_b202 q μ18) else (f_X7_inserts q (nI l1) key val (rst m (q + 1) p2)).bind (fun μ17 => f_X7_doPut_b202 q μ17))) else (f_X7_valueAt q (nI l1) v15 (rst m (q + 1) p2)).bind (fun v19 => (f_X7_setEntry q (nI l1) v15 key val (rst m (q + 1) p2)).bind (fun μ20 => (some (v19, μ20)))))) := fun q m => by
      unfold f_X7_doPut_b51
      rw [if_neg (not_none (nI_pos' (by omega))), manyToDig_n, rst_eq, Option.bind_some, if_pos (nI_le hm (by omega)), a6, bn2_some, placeFor_n (by rw [rst_eq]; exact a5.2.2.1), rst_eq, epl, Option.bind_some, if_pos (show (0 : Int32) ≤ oI (-1) (some k) from nI_pos' (by omega)), show oI (-1) (some k) = nI k from rfl, b7, bn2_some]
    have hpi : ∀ (q : Nat) (m : Mem), f_X7_placeIn q (nI l1) key (rst m (q + 1) p2) = some (oI (-1) (ein p l key)) := fun q m => by
      rw [placeIn_n (by rw [rst_eq]; exact t2), rst_eq, eei]
    rw [b2.1.entryPlace t2, eei] at hcls
    cases e2 : ein p l key with
    | some i =>
      have hii := (ein_lt e2).1
      obtain ⟨p3, μ3, c1, c2, c3, c4, c5⟩ := b2.setV (val := val) b4 b5 hk2 b10 b11 (eei.trans e2)
      refine ⟨gB p2 l1 (7 + 2 * i), p3, μ3, ?_, c2, (a3.tr b3).tr c3, c4, fun q m f => ⟨f, ?_⟩⟩
      · rw [hcls, e2, Option.bind_some, if_neg (show ¬ oI (-1000) (some i) = -1000 from not_none (nI_pos' (by omega))), show oI (-1000) (some i) = nI i from rfl, b2.1.val t2 (by omega), Option.bind_some, c1, Option.bind_some]
      · rw [hmod, hpi, e2, Option.bind_some, if_neg (show ¬ oI (-1) (some i) < 0 from nI_nz (by omega)), show oI (-1) (some i) = nI i from rfl, valueAtM_n t1 (by omega), rst_eq, Option.bind_some, c5, Option.bind_some]
    | none =>
      by_cases c4 : nB p l 2 = 4
      · obtain ⟨z1, z2⟩ := hcn.2 ⟨e2, c4⟩
        obtain ⟨p3, b, μ3, μ4, μ5, μ6, c1, c2, c3, c5, c6, c7, c8, c9, c10, c11⟩ := b2.splitL (val := val) b4 b5 hk2 b10 b11 (en2.trans c4) (eei.trans e2) (by rw [b9, b6, a8]; rw [a8] at h6; omega) (by omega)
        refine ⟨-1000, p3, μ6, ?_, c8, (a3.tr b3).tr c9, c10, fun q m f => ?_⟩
        · rw [hcls, e2, Option.bind_some, if_pos (show oI (-1000) none = -1000 from rfl), c1, Option.bind_some, c2, Option.bind_some, if_neg (show ¬ nI 5 ≤ (4 : Int32) by decide), c3, bn2_some, c5, Option.bind_some, c6, nI_1, c7, Option.bind_some]
          rfl
        · obtain ⟨f', c12⟩ := c11 q m f
          refine ⟨f', ?_⟩
          rw [b6] at c12
          rw [hmod, hpi, e2, Option.bind_some, if_pos (show oI (-1) none < 0 by decide), of2 t1, rst_eq, Option.bind_some, t2.2.2.2.1, en2, c4, if_pos (show nI 4 = (4 : Int32) from rfl), c12, Option.bind_some]
          rfl
      · obtain ⟨p3, μ3, c1, c2, c3, c5, c6, c7⟩ := b2.insE (val := val) b4 b5 hk2 b10 b11 (by omega) (eei.trans e2)
        refine ⟨-1000, p3, μ3, ?_, c3, (a3.tr b3).tr c5, c6, fun q m f => ⟨f, ?_⟩⟩
        · rw [hcls, e2, Option.bind_some, if_pos (show oI (-1000) none = -1000 from rfl), c1, Option.bind_some, c2, Option.bind_some, if_pos (gI (c := 4) 4 (nB p2 l1 2 + 1) rfl (by omega) (by omega))]
          rfl
        · rw [hmod, hpi, e2, Option.bind_some, if_pos (show oI (-1) none < 0 by decide), of2 t1, rst_eq, Option.bind_some, t2.2.2.2.1, if_neg (show ¬ nI (nB p2 l1 2) = (4 : Int32) from fun z => c4 (by rw [← en2]; exact nI_inj (b := 4) (by omega) (by omega) z)), c7, Option.bind_some]
          rfl
def rmN (p : Nat → Int32) (l : Nat) : Nat := if nB p l 2 = 1 then 0 else cN p l
theorem RG.remove (h : RG g μ p) (hi : INV B p) (hd : p 466 = 1) (e : plc p (drd p) key = some k) (hl : nB p (drd p) (6 + k) = l) (e2 : ein p l key = some i) (hm : dN p + rmN p l ≤ many p) : ∃ (p' : Nat → Int32) (μ' : Mem), f_X4_removeEntry g key μ = some (gB p l (7 + 2 * i), μ') ∧ RG g μ' p' ∧ GFr g μ μ' ∧ INV B p' ∧ ∀ (q : Nat) (m : Mem) (v : Int32), ¬ v = -1000 → f_X7_doRemove_b42 q key v (rst m (q + 1) p) = some (v, rst m (q + 1) p') := by
  have hdd := hi.dd.2
  have hmm : many p ≤ 32 := ct_le 32
  have hk := plc_lt e
  obtain ⟨p1, μ1, a1, a2, a3, a4, a5, a6, a7, a8, a9⟩ := h.dir hi hd (by omega)
  have epl : plc p1 (fdp p1) key = some k := (plc_cg a8 (fun i hi2 => ⟨(a9 i hi2).1, (a9 i hi2).2 6 (by decide)⟩)).trans e
  have hb1 := a2.dbed a4 a5
  have hk1 : k < nB p1 (fdp p1) 2 := by rw [a8]; exact hk
  have hl1 : nB p1 (fdp p1) (6 + k) = l := (a9 k hk).1.trans hl
  have hc1 : ∀ w, w < 14 → gB p1 l w = gB p l w := fun w hw => by
    have z := (a9 k hk).2 w hw
    rw [hl] at z
    exact z
  have hlp : gB p (drd p) (6 + k) = nI l ∧ LeafOK p l := by
    have z := hdd.2.2.2.2.2.1 k hk
    rw [hl] at z
    exact z
  have l4 := hlp.2.2.2.2.2.2.1
  have l1' := hlp.2.2.2.2.2.1
  have hii := (ein_lt e2).1
  have h6 := hdd.2.2.2.2.1
  have h61 := a5.2.2.1.2.2.2.2.1
  obtain ⟨t1, t2, t3, t4, t5, t6⟩ := a5.leafs hk1
  rw [hl1] at t1 t2 t3 t4 t5 t6
  have en1 : nB p1 l 2 = nB p l 2 := nB_of (hc1 2 (by decide))
  have ee1 : ein p1 l key = some i := (ein_cg en1 (fun i hi2 => hc1 _ (by omega))).trans e2
  have hlf := a2.1.leaf a5.2.2.1 hk1
  rw [hl1] at hlf
  have hv : f_X1_valueAt (g + 1) (nI l) (nI i) μ1 = some (gB p l (7 + 2 * i)) := by
    rw [a2.1.val t2 (by omega), hc1 _ (by omega)]
  have hcls : f_X4_removeEntry g key μ = (if nI (nB p l 2) = 1 then (f_X1_cutLeaf (g + 1) (nI (fdp p1)) (nI k) μ1).bind (fun μ11 => (f_X1_leave (g + 1) (nI l) μ11).bind (fun μ12 => f_X4_removeEntry_b110 g (gB p l (7 + 2 * i)) μ12)) else bn2 (f_X4_ownLeaf g (nI k) μ1) (fun v7 μ8 => (f_X1_entryPlace (g + 1) v7 key μ8).bind (fun v9 => (f_X1_cutEntry (g + 1) v7 v9 μ8).bind (fun μ10 => f_X4_removeEntry_b110 g (gB p l (7 + 2 * i)) μ10)))) := by
    unfold f_X4_removeEntry
    rw [a1, Option.bind_some, hb1, a2.1.leafPlace a5.2.2.1, epl, Option.bind_some, show oI (-1000) (some k) = nI k from rfl, hlf, Option.bind_some, a2.1.entryPlace t2, ee1, Option.bind_some, show oI (-1000) (some i) = nI i from rfl, hv, Option.bind_some, a2.1.size t1 t2.2.1, t2.2.2.2.1, en1, Option.bind_some]
  have h132 : ∀ (q : Nat) (m : Mem) (v x5 s0 : Int32), nI (dN p) + s0 = nI (dN p + rmN p l) → f_X7_doRemove_b132 q key v (nI k) (nI l) x5 s0 (nI (dN p)) (rst m (q + 1) p) = (if x5 = 0 then bn2 (f_X7_ownLeaf q (nI (fdp p1)) (nI k) (rst m (q + 1) p1)) (fun v14 μ15 => (f_X7_placeIn q v14 key μ15).bind (fun v16 => f_X7_doRemove_b247 q FU v v14 v16 μ15)) else (f_X7_leaves q (nI l) (rst m (q + 1) p1)).bind (fun μ23 => f_X7_doRemove_b170 q FU v (nI (fdp p1)) (nI k) μ23)) := fun q m v x5 s0 hs0 => by
    unfold f_X7_doRemove_b132
    rw [manyToDig_n, rst_eq, Option.bind_some, hs0, if_pos (nI_le hm (by omega)), a6, bn2_some]
  have h93 : ∀ (q : Nat) (m : Mem) (v x5 : Int32), f_X7_doRemove_b93 q key v (nI k) (nI l) x5 (rst m (q + 1) p) = f_X7_doRemove_b111 q key v (nI k) (nI l) x5 (nI (dN p)) (rst m (q + 1) p) := fun q m v x5 => by
    unfold f_X7_doRemove_b93
    rw [rst_eq, rd_c (i := 467) 467 rfl (by decide) (by decide), Option.bind_some]
    unfold dN
    by_cases c : p 467 < 0
    · rw [if_neg (Int32.not_le.mpr c), if_pos c]
      rfl
    · rw [if_pos (Int32.not_lt.mp c), if_neg c]
      rfl
  have h42 : ∀ (q : Nat) (m : Mem) (v : Int32), ¬ v = -1000 → f_X7_doRemove_b42 q key v (rst m (q + 1) p) = (if nI (nB p l 2) = 1 then f_X7_doRemove_b93 q key v (nI k) (nI l) 1 (rst m (q + 1) p) else f_X7_doRemove_b93 q key v (nI k) (nI l) 0 (rst m (q + 1) p)) := fun q m v hv => by
    have hdr : f_X7_drafts q (rst m (q + 1) p) = some (nI (drd p)) := by
      rw [drafts_n (B := B) (by rw [rst_eq]; exact hi), rst_eq]
    unfold f_X7_doRemove_b42
    rw [if_neg hv, hdr, Option.bind_some, placeFor_n (by rw [rst_eq]; exact hdd), rst_eq, e, Option.bind_some, Option.bind_some, show oI (-1) (some k) = nI k from rfl, leafAtM_n hdd.1 (by omega), rst_eq, hlp.1, Option.bind_some, of2 hlp.2.1, rst_eq, Option.bind_some, hlp.2.2.2.2.1]
  by_cases c1 : nB p l 2 = 1
  · obtain ⟨p2, μ2, μ3, b1, b2, b3, b4, b5, b6⟩ := a2.dropL a4 a5 hk1 hl1
    refine ⟨p2, μ3, ?_, b3, a3.tr b4, b5, fun q m v hv => ?_⟩
    · rw [hcls, if_pos (show nI (nB p l 2) = 1 from congrArg nI c1), b1, Option.bind_some, b2, Option.bind_some]
      rfl
    · obtain ⟨m1, z1, z2⟩ := b6 q m v
      rw [h42 q m v hv, if_pos (show nI (nB p l 2) = 1 from congrArg nI c1), h93]
      unfold f_X7_doRemove_b111 f_X7_doRemove_b127
      rw [if_neg (by decide), h132 q m v 1 0 (by rw [show rmN p l = 0 from if_pos c1]; exact Int32.add_zero _), if_neg (by decide), z1, Option.bind_some, z2]
  · have c1' : ¬ nI (nB p l 2) = 1 := fun z => c1 (nI_inj (b := 1) (by omega) (by omega) z)
    have erm : rmN p l = cN p l := if_neg c1
    have ecn : cN p1 l = cN p l := by
      unfold cN
      rw [hc1 4 (by decide)]
    obtain ⟨p2, μ2, l1, b1, b2, b3, b4, b5, b6, b7, b8, b9, b10, b11, b12⟩ := a2.ownLeaf a4 a5 hk1 hl1 (by omega)
    have hc2 : ∀ w, w < 14 → (w = 2 ∨ 6 ≤ w) → gB p2 l1 w = gB p l w := fun w hw hz => (b12 w hw hz).trans (hc1 w hw)
    have en2 : nB p2 l1 2 = nB p l 2 := nB_of (hc2 2 (by decide) (Or.inl rfl))
    have eei : ein p2 l1 key = some i := (ein_cg en2 (fun i hi2 => hc2 _ (by omega) (Or.inr (by omega)))).trans e2
    rw [← b6] at b9 b10
    have hk2 : k < nB p2 (fdp p2) 2 := by rw [b9, b6]; exact hk1
    obtain ⟨s1, s2, s3, s4, s5, s6⟩ := b5.leafs hk2
    rw [b10] at s1 s2 s3 s4 s5 s6
    obtain ⟨p3, μ3, d1, d2, d3, d4, d5⟩ := b2.cutE b4 b5 hk2 b10 b11 (i := i) (by omega) (by omega)
    refine ⟨p3, μ3, ?_, d2, (a3.tr b3).tr d3, d4, fun q m v hv => ?_⟩
    · rw [hcls, if_neg c1', b1, bn2_some, b2.1.entryPlace s2, eei, Option.bind_some, show oI (-1000) (some i) = nI i from rfl, d1, Option.bind_some]
      rfl
    · have hfin : (if (0 : Int32) = 0 then bn2 (f_X7_ownLeaf q (nI (fdp p1)) (nI k) (rst m (q + 1) p1)) (fun v14 μ15 => (f_X7_placeIn q v14 key μ15).bind (fun v16 => f_X7_doRemove_b247 q FU v v14 v16 μ15)) else (f_X7_leaves q (nI l) (rst m (q + 1) p1)).bind (fun μ23 => f_X7_doRemove_b170 q FU v (nI (fdp p1)) (nI k) μ23)) = some (v, rst m (q + 1) p3) := by
        rw [if_pos rfl, b7, bn2_some, placeIn_n (by rw [rst_eq]; exact s2), rst_eq, eei, Option.bind_some, show oI (-1) (some i) = nI i from rfl, d5]
      rw [h42 q m v hv, if_neg c1', h93]
      unfold f_X7_doRemove_b111 f_X7_doRemove_b127
      rw [if_pos rfl, of4 hlp.2.1, rst_eq, Option.bind_some]
      by_cases c4 : gB p l 4 = 1
      · rw [if_pos c4, h132 q m v 0 0 (by rw [erm, show cN p l = 0 from if_pos c4]; exact Int32.add_zero _), hfin]
      · rw [if_neg c4, h132 q m v 0 1 (by rw [erm, show cN p l = 1 from if_neg c4, nI_1]), hfin]
end PPUT
