/-! PURE, steps of a change on both sides: directory, leaf, insertion, split, drop -/
section PBOTH
variable {q g : Nat} {m μ μ' : Mem} {p p' P : Nat → Int32} {l b b' w' n s k d f pl j i : Nat} {key val kind x w : Int32} {B : Int}
def GFr (g : Nat) (μ μ' : Mem) : Prop := ∀ k, (k < g ∨ g + 16 ≤ k) → μ' k = μ k
theorem Fr.gfr (h : Fr (g + 1) μ μ') : GFr g μ μ' := fun k hk => h k (by omega)
theorem GFr.rf : GFr g μ μ := fun _ _ => rfl
theorem GFr.tr {μ'' : Mem} (h : GFr g μ μ') (h' : GFr g μ' μ'') : GFr g μ μ'' := fun k hk => (h' k hk).trans (h k hk)
theorem cur_cg (hR : ∀ r v, r < 2 → v < 3 → gR p' r v = gR p r v) : cur p' = cur p := by
  unfold cur
  rw [hR 1 2 (by decide) (by decide), hR 0 2 (by decide) (by decide), hR 0 0 (by decide) (by decide), hR 1 0 (by decide) (by decide)]
theorem need_cg (hR : ∀ r v, r < 2 → v < 3 → gR p' r v = gR p r v) (hD : ∀ r v, r < 4 → v < 3 → gD p' r v = gD p r v) (w : Int32) : need p' w = need p w := by
  show lp (dmin p' w) 4 0 (lp (rmin p') 2 0 (gR p' (cur p') 0)) = lp (dmin p w) 4 0 (lp (rmin p) 2 0 (gR p (cur p) 0))
  rw [cur_cg hR, hR _ 0 cur_lt (by decide), lp_cg (s := rmin p') (t := rmin p) 2 0 _ (fun j _ h2 a => by
    unfold rmin
    rw [hR j 2 (by omega) (by decide), hR j 0 (by omega) (by decide)]), lp_cg (s := dmin p' w) (t := dmin p w) 4 0 _ (fun j _ h2 a => by
    unfold dmin
    rw [hD j 0 (by omega) (by decide), hD j 1 (by omega) (by decide)])]
theorem many_cg (hn : need p' (-1) = need p (-1)) (h : ∀ b, b < 32 → gB p' b 0 = gB p b 0 ∧ gB p' b 3 = gB p b 3) : many p' = many p ∧ nfree p' = nfree p := by
  have ed : ∀ b, b < 32 → dg p' b = dg p b := fun b hb => by
    show (decide (gB p' b 0 = 2) && decide (gB p' b 3 ≤ need p' (-1))) = (decide (gB p b 0 = 2) && decide (gB p b 3 ≤ need p (-1)))
    rw [(h b hb).1, (h b hb).2, hn]
  refine ⟨ct_cg 32 (fun b hb => ?_), ct_cg 32 (fun b hb => ed b hb)⟩
  rw [ed b hb]
  show (dg p b || decide (gB p' b 0 = 0)) = (dg p b || decide (gB p b 0 = 0))
  rw [(h b hb).1]
theorem INV.draft (hi : INV B p) (h : ¬ p 467 < 0) : HasDraft p := by
  rcases hi.2.2.2.2.2.1 with c | c
  · exact absurd c.lt h
  · exact c
theorem RG.dir (h : RG g μ p) (hi : INV B p) (hd : p 466 = 1) (hm : dN p ≤ many p) : ∃ (p1 : Nat → Int32) (μ1 : Mem), f_X4_ownDirectory g μ = some μ1 ∧ RG g μ1 p1 ∧ GFr g μ μ1 ∧ INV B p1 ∧ HasDraft p1 ∧ (∀ (q : Nat) (m : Mem), f_X7_directory q (rst m (q + 1) p) = some (nI (fdp p1), rst m (q + 1) p1)) ∧ many p = many p1 + dN p ∧ nB p1 (fdp p1) 2 = nB p (drd p) 2 ∧ (∀ i, i < nB p (drd p) 2 → nB p1 (fdp p1) (6 + i) = nB p (drd p) (6 + i) ∧ ∀ w, w < 14 → gB p1 (nB p (drd p) (6 + i)) w = gB p (nB p (drd p) (6 + i)) w) := by
  by_cases hl : p 467 < 0
  · have e1 : dN p = 1 := if_pos hl
    have e2 : drd p = cd p := if_pos hl
    obtain ⟨f, hn⟩ := nxt_some (p := p) (by omega)
    have hf := nxt_lt hn
    obtain ⟨f1, f2, f3⟩ := nxt_free hi hn
    obtain ⟨d1, d2, d3⟩ := hi.2.2.1
    have hd32 := d2.1
    have hdf : cd p ≠ f := fun z => f1 (by rw [← z]; exact d3.1.1)
    have h4 := d3.1.2
    obtain ⟨μ1, a1, a2, a3⟩ := h.ownDirectory hi hd hl hn
    have hI := INV_oD hi hd hl hn
    have hsame : Same (sS (dgB p f 1) 467 (nI f)) (oD p (cd p) f) := (cpB_same hf).tr (lvB_same hd32)
    have h467 : oD p (cd p) f 467 = nI f := by
      rw [hsame 467 (by decide)]
      exact upd_eq
    have hpc : ∀ i, 448 ≤ i → i ≠ 467 → oD p (cd p) f i = p i := fun i h1 h2 => by
      rw [hsame i h1, show sS (dgB p f 1) 467 (nI f) i = dgB p f 1 i from upd_ne h2, dgB_same hf i h1]
    have hD := hI.draft (by rw [h467]; exact nI_nz (by omega))
    have ef : fdp (oD p (cd p) f) = f := by
      unfold fdp
      rw [h467, nI_clamp (by omega)]
    have hk : ∀ i, i < nB p (cd p) 2 → nB p (cd p) (6 + i) < 32 ∧ nB p (cd p) (6 + i) ≠ f ∧ nB p (cd p) (6 + i) ≠ cd p := fun i hi2 => by
      have hL := (d2.2.2.2.2.2.1 i hi2).2
      refine ⟨hL.1, fun z => f1 (by rw [← z]; exact (d3.2 i hi2).1), fun z => ?_⟩
      have q1 := hL.2.2.1
      rw [z, d2.2.2.1] at q1
      exact absurd q1 (by decide)
    have new0 : ∀ w, w < 14 → gB (oD p (cd p) f) f w = if w = 2 ∨ 6 ≤ w then gB p (cd p) w else gB (dgB p f 1) f w := fun w hw => oD_new hf hd32 hw h4 hdf
    refine ⟨oD p (cd p) f, μ1, a1, a2, fun k hk => a3 k hk, hI, hD, fun q m => ?_, ?_, ?_, fun i hi2 => ⟨?_, fun w hw => ?_⟩⟩
    · have e := directory_r (q := q) (μ := rst m (q + 1) p) (B := B) (p := p) (f := f) hi hl hn
      rw [rst_rst, rst_rst] at e
      rw [ef]
      exact e
    · rw [e1, many_dg (kind := 1) hn dgB_eq.1]
      have hq : need (oD p (cd p) f) (-1) = need (dgB p f 1) (-1) := need_cg (fun r v hr hv => (hpc _ (by omega) (by omega)).trans (dgB_same hf _ (by omega)).symm) (fun r v hr hv => (hpc _ (by omega) (by omega)).trans (dgB_same hf _ (by omega)).symm) _
      have e4 : ¬ gB (cpB (dgB p f 1) (cd p) f) (cd p) 4 = 1 := by
        rw [cpB_gB (by decide), if_neg (fun z => hdf z.1), dgB_ne hdf (by decide), h4]
        decide
      rw [(many_cg hq (fun b hb => by
        rw [oD_gB hf hb hd32 (by decide) h4 hdf, lvB_gB (by decide), if_neg e4, if_neg (by omega), cpB_gB (by decide), if_neg (by omega), oD_gB hf hb hd32 (by decide) h4 hdf, lvB_gB (by decide), if_neg e4, if_neg (by omega), cpB_gB (by decide), if_neg (by omega)]
        exact ⟨rfl, rfl⟩)).1]
    · rw [ef, e2]
      exact nB_of (by rw [new0 2 (by decide), if_pos (by decide)])
    · rw [e2] at hi2
      have h6 := d2.2.2.2.2.1
      rw [ef, e2]
      exact nB_of (by rw [new0 (6 + i) (by omega), if_pos (Or.inr (by omega))])
    · rw [e2] at hi2 ⊢
      exact oD_other hf (hk i hi2).1 hd32 hw h4 hdf (hk i hi2).2.1 (fun z => (hk i hi2).2.2 z.1)
  · have hD := hi.draft hl
    have e1 : dN p = 0 := if_neg hl
    have e2 : drd p = fdp p := if_neg hl
    have hdb := h.draftBed hi hd
    rw [e2] at hdb
    refine ⟨p, μ, ?_, h, GFr.rf, hi, hD, fun q m => ?_, by omega, by rw [e2], fun i hi2 => ⟨by rw [e2], fun w hw => rfl⟩⟩
    · unfold f_X4_ownDirectory f_X4_ownDirectory_b48
      rw [hdb, h.fresh hD.2.2.1.1, hD.2.2.2.1, Option.bind_some, if_neg (by decide)]
    · unfold f_X7_directory f_X7_directory_b47
      rw [rst_eq, rd_c (i := 467) 467 rfl (by decide) (by decide), Option.bind_some, if_pos (Int32.not_lt.mp hl), Option.bind_some, hD.2.1]
theorem RB.eqE (h : RB q μ p) (hl : LeafOK p l) : EqE q μ p l (nB p l 2) := fun i hi h4 => h.2.1 l hl.1 hl.2.1 hl.2.2.1 i hi h4
theorem RB.eqL (h : RB q μ p) (hd : DirOK p d) : EqL q μ p d (nB p d 2) := fun i hi h6 => h.2.2 d hd.1 hd.2.1 hd.2.2.1 i hi h6
theorem RG.dbed (h : RG g μ p) (hi : INV B p) (hd : HasDraft p) : μ g 7 = nI (fdp p) := by
  have e := h.draftBed hi hd.1
  rw [show drd p = fdp p from if_neg hd.nlt] at e
  exact e
theorem RG.ownLeaf (h : RG g μ p) (hi : INV B p) (hd : HasDraft p) (hk : k < nB p (fdp p) 2) (hl : nB p (fdp p) (6 + k) = l) (hm : cN p l ≤ many p) : ∃ (p1 : Nat → Int32) (μ1 : Mem) (l1 : Nat), f_X4_ownLeaf g (nI k) μ = some (nI l1, μ1) ∧ RG g μ1 p1 ∧ GFr g μ μ1 ∧ INV B p1 ∧ HasDraft p1 ∧ fdp p1 = fdp p ∧ (∀ (q : Nat) (m : Mem), f_X7_ownLeaf q (nI (fdp p)) (nI k) (rst m (q + 1) p) = some (nI l1, rst m (q + 1) p1)) ∧ many p = many p1 + cN p l ∧ nB p1 (fdp p) 2 = nB p (fdp p) 2 ∧ nB p1 (fdp p) (6 + k) = l1 ∧ gB p1 l1 4 = 1 ∧ (∀ w, w < 14 → (w = 2 ∨ 6 ≤ w) → gB p1 l1 w = gB p l w) := by
  have hd0 := hd
  obtain ⟨d1, d2, d3, d4, d5⟩ := hd0
  have h6 := d3.2.2.2.2.1
  have hdb := h.dbed hi hd
  obtain ⟨g1, g2, g3, g4, g5, g6⟩ := hd.leafs hk
  have hlf := h.1.leaf d3 hk
  rw [hl] at g1 g2 g3 g4 g5 g6 hlf
  by_cases c4 : gB p l 4 = 1
  · have ec : cN p l = 0 := if_pos c4
    refine ⟨p, μ, l, ?_, h, GFr.rf, hi, hd, rfl, fun q m => ?_, by omega, rfl, hl, c4, fun w hw _ => rfl⟩
    · unfold f_X4_ownLeaf
      rw [hdb, hlf, Option.bind_some, h.fresh g1, c4, Option.bind_some, if_neg (by decide)]
    · unfold f_X7_ownLeaf
      rw [leafAtM_n d3.1 (by omega), rst_eq, g6, Option.bind_some, of4 g1, rst_eq, Option.bind_some, if_pos c4]
  · have ec : cN p l = 1 := if_neg c4
    obtain ⟨f, hn⟩ := nxt_some (p := p) (by omega)
    have hf := nxt_lt hn
    obtain ⟨f1, f2, f3⟩ := nxt_free hi hn
    have h40 : gB p l 4 = 0 := (hi.2.1 l g1).2.1.resolve_right c4
    have hlf2 : l ≠ f := fun z => f1 (by rw [← z]; exact g3)
    have hdf : fdp p ≠ f := fun z => f1 (by rw [← z]; exact d5.1.1)
    obtain ⟨i1, i2, i3, i4, i5, i6, i7⟩ := INV_own hi hd hk hl c4 hn
    obtain ⟨μ1, a1, a2, a3⟩ := h.dig (kind := 0) hi.1 hn f2
    have hL1 : LeafOK (dgB p f 0) l := g2.cgc (fun w hw _ => dgB_ne hlf2 hw)
    obtain ⟨μ2, b1, b2, b3⟩ := a2.1.copyLeaf hL1 hf hlf2 (by rw [dgB_eq.1]; decide) dgB_eq.2.1
    have e4 : gB (cpB (dgB p f 0) l f) l 4 = 0 := by
      rw [cpB_gB (by decide), if_neg (fun z => hlf2 z.1), dgB_ne hlf2 (by decide)]
      exact h40
    obtain ⟨μ3, c1, c2, c3⟩ := b2.leave g1 (fun z => by rw [e4] at z; exact absurd z (by decide))
    have g7 : μ3 g 7 = nI (fdp p) := by rw [c3 g (by omega), b3 g (by omega), a3 g (by omega)]; exact hdb
    have k1 : gB (lvB (cpB (dgB p f 0) l f) l) (fdp p) 1 = 1 := by
      rw [lvB_gB (by decide), if_neg (by rw [e4]; decide), if_neg (by omega), cpB_gB (by decide), if_neg (by omega), dgB_ne hdf (by decide)]
      exact d3.2.2.1
    have r4 := c2.setLeafR (x := nI f) d3.1 k1 (i := k) (by omega)
    have fr : Fr (g + 1) μ (mst μ3 (g + 1 + 9) (6 * fdp p + k) (nI f)) := ((a3.tr b3).tr c3).tr (Fr.mst (by omega) (by omega))
    refine ⟨owL p (fdp p) k l f, _, f, ?_, h.beds (owL_same g1 hf d3.1 (by omega)) r4 fr, fr.gfr, i1, i2, (owL_same g1 hf d3.1 (by omega)).fdpEq, fun q m => ?_, by omega, i3, i4, i5, i6⟩
    · unfold f_X4_ownLeaf
      rw [hdb, hlf, Option.bind_some, h.fresh g1, Option.bind_some, if_neg c4, if_pos rfl, a1, bn2_some, b1, Option.bind_some, c1, Option.bind_some, g7, setLeaf_n d3.1 (by omega), Option.bind_some]
    · unfold f_X7_ownLeaf
      rw [leafAtM_n d3.1 (by omega), rst_eq, g6, Option.bind_some, of4 g1, rst_eq, Option.bind_some, if_neg c4, dig_r hn, bn2_some, copies_r g1 hf, Option.bind_some, leaves_r g1, Option.bind_some, show (6 : Int32) + nI k = nI (6 + k) by rw [show (6 : Int32) = nI 6 from rfl, nI_add], lay_rr d3.1 (by omega), Option.bind_some]
      rfl
theorem RB.insertLeafR (h : RB q μ P) (hd : d < 32) (h0 : gB P d 0 ≠ 0) (h1 : gB P d 1 = 1) (h2 : gB P d 2 = nI n) (hpl : pl ≤ n) (hn : n < 6) : ∃ μ', f_X1_insertLeaf q (nI d) (nI pl) x μ = some μ' ∧ RB q μ' (inL P d pl (n - pl) x n) ∧ Fr q μ μ' := by
  have n2 : nB P d 2 = n := by
    unfold nB
    rw [h2, nI_clamp (by omega)]
  have hE : EqL q μ P d n := fun i hi h6 => h.2.2 d hd h0 h1 i (by omega) h6
  unfold f_X1_insertLeaf
  rw [h.size hd h0, Option.bind_some, h2]
  have e := insertLeafC (pl := pl) hd (x := x) (n - pl) FU n μ P n (by unfold FU; omega) h h0 h1 hE (Or.inr ⟨rfl, by omega⟩) (by omega) hn
  rw [show pl + (n - pl) = n by omega] at e
  exact e
theorem RB.insertEntryR (h : RB q μ P) (hl : l < 32) (h0 : gB P l 0 ≠ 0) (h1 : gB P l 1 = 0) (h2 : gB P l 2 = nI n) (hn : n < 4) : ∃ μ', f_X1_insertEntry q (nI l) key val μ = some μ' ∧ RB q μ' (inE P l n key val n) ∧ Fr q μ μ' := by
  have n2 : nB P l 2 = n := by
    unfold nB
    rw [h2, nI_clamp (by omega)]
  have hE : EqE q μ P l n := fun i hi h4 => h.2.1 l hl h0 h1 i (by omega) h4
  unfold f_X1_insertEntry
  rw [h.size hl h0, Option.bind_some, h2]
  exact insertEntryC hl n FU n μ P n (by unfold FU; omega) h h0 h1 hE (Or.inr ⟨rfl, rfl⟩) (Nat.le_refl _) hn
theorem inserts_r (hl : l < 32) (h2 : gB p l 2 = nI n) (hn : n < 4) : f_X7_inserts q (nI l) key val (rst m (q + 1) p) = some (rst m (q + 1) (inE p l n key val n)) := by
  unfold f_X7_inserts
  rw [of2 hl, rst_eq, Option.bind_some, h2]
  exact insertsM hl n FU p n (by unfold FU; omega) h2 (Nat.le_refl _) hn
/-- the first leaf of an empty directory -/
theorem RG.newLeaf (h : RG g μ p) (hi : INV B p) (hd : HasDraft p) (hz : nB p (fdp p) 2 = 0) (hm : 1 ≤ many p) : ∃ (p1 : Nat → Int32) (b : Nat) (μ1 μ2 μ3 : Mem), f_X4_dig g 0 μ = some (nI b, μ1) ∧ f_X1_insertEntry (g + 1) (nI b) key val μ1 = some μ2 ∧ μ2 g 7 = nI (fdp p) ∧ f_X1_insertLeaf (g + 1) (nI (fdp p)) 0 (nI b) μ2 = some μ3 ∧ RG g μ3 p1 ∧ GFr g μ μ3 ∧ INV B p1 ∧ (∀ (q : Nat) (m : Mem), ∃ m1 m2, f_X7_dig q 0 (rst m (q + 1) p) = some (nI b, m1) ∧ f_X7_inserts q (nI b) key val m1 = some m2 ∧ f_X7_insertLeaf q (nI (fdp p)) 0 (nI b) m2 = some (rst m (q + 1) p1)) := by
  obtain ⟨b, hn⟩ := nxt_some (p := p) (by omega)
  have hb := nxt_lt hn
  obtain ⟨f1, f2, f3⟩ := nxt_free hi hn
  have hd0 := hd
  obtain ⟨d1, d2, d3, d4, d5⟩ := hd0
  have hdb := h.dbed hi hd
  have hbd : fdp p ≠ b := fun z => f1 (by rw [← z]; exact d5.1.1)
  obtain ⟨e0, e1, e2, e3, e4, e5⟩ := dgB_eq (p := p) (b := b) (kind := 0)
  obtain ⟨μ1, a1, a2, a3⟩ := h.dig (kind := 0) hi.1 hn f2
  obtain ⟨μ2, b1, b2, b3⟩ := a2.1.insertEntryR (key := key) (val := val) (n := 0) hb (by rw [e0]; decide) e1 e2 (by decide)
  obtain ⟨o1, o2, o3, o4⟩ := inE_ok (p := dgB p b 0) (l := b) (n := 0) (key := key) (val := val) hb (by rw [e0]; decide) e1 (by decide) (fun i j _ hj => absurd hj (Nat.not_lt_zero j)) (fun i hi2 => absurd hi2 (Nat.not_lt_zero i))
  have od : ∀ w, w < 14 → gB (inE (dgB p b 0) b 0 key val 0) (fdp p) w = gB p (fdp p) w := fun w hw => (o2 _ w hw (Or.inl hbd)).trans (dgB_ne hbd hw)
  have d2n : gB (inE (dgB p b 0) b 0 key val 0) (fdp p) 2 = nI 0 := by
    rw [od 2 (by decide), d3.2.2.2.1, hz]
  obtain ⟨μ3, c1, c2, c3⟩ := b2.insertLeafR (x := nI b) (pl := 0) (n := 0) d3.1 (by rw [od 0 (by decide), d5.1.1]; decide) (by rw [od 1 (by decide)]; exact d3.2.2.1) d2n (Nat.le_refl _) (by decide)
  have hI := INV_ins (pl := 0) (P := inE (dgB p b 0) b 0 key val 0) hi hd hn (by omega) (by omega) ((dgB_same hb).tr o3) (fun b' w hb' h1 h2 => o2 b' w (by omega) (Or.inr ⟨h1, h2⟩)) (fun b' hb' h1 h2 w hw => (o2 b' w hw (Or.inl h2)).trans (dgB_ne h2 hw)) od (fun i hi2 => by rw [hz] at hi2; exact absurd hi2 (Nat.not_lt_zero i)) o1
  rw [hz] at hI
  have hsm : Same p (inL (inE (dgB p b 0) b 0 key val 0) (fdp p) 0 (0 - 0) (nI b) 0) := ((dgB_same hb).tr o3).tr (inL_spec (p := inE (dgB p b 0) b 0 key val 0) (pl := 0) (m := 0) (n := 0) (x := nI b) d3.1 rfl (by decide)).2.2.2
  refine ⟨_, b, μ1, μ2, μ3, a1, b1, by rw [b3 g (by omega), a3 g (by omega)]; exact hdb, c1, h.beds hsm c2 ((a3.tr b3).tr c3), ((a3.tr b3).tr c3).gfr, hI, fun q m => ⟨_, _, dig_r hn, inserts_r hb e2 (by decide), ?_⟩⟩
  have e := insertLeaf_r (q := q) (μ := m) (pl := 0) (n := 0) (x := nI b) d3.1 d2n (Nat.le_refl _) (by decide)
  exact e
/-- a leaf of four is split -/
theorem RG.splitL (h : RG g μ p) (hi : INV B p) (hd : HasDraft p) (hk : k < nB p (fdp p) 2) (hl : nB p (fdp p) (6 + k) = l) (h41 : gB p l 4 = 1) (h4 : nB p l 2 = 4) (hne : ein p l key = none) (h6 : nB p (fdp p) 2 < 6) (hm : 1 ≤ many p) : ∃ (p1 : Nat → Int32) (b : Nat) (μ0 μ1 μ2 μ3 : Mem), f_X1_insertEntry (g + 1) (nI l) key val μ = some μ0 ∧ f_X1_sizeOf (g + 1) (nI l) μ0 = some (nI 5) ∧ f_X4_dig g 0 μ0 = some (nI b, μ1) ∧ f_X1_splitLeaf (g + 1) (nI l) (nI b) μ1 = some μ2 ∧ μ2 g 7 = nI (fdp p) ∧ f_X1_insertLeaf (g + 1) (nI (fdp p)) (nI (k + 1)) (nI b) μ2 = some μ3 ∧ RG g μ3 p1 ∧ GFr g μ μ3 ∧ INV B p1 ∧ (∀ (q : Nat) (m : Mem) (f : Nat → Int32), ∃ f', f_X7_splits q (nI (fdp p)) (nI k) (nI l) key val (rst (rst m (q + 5) f) (q + 1) p) = some (rst (rst m (q + 5) f') (q + 1) p1)) := by
  obtain ⟨b, hn⟩ := nxt_some (p := p) (by omega)
  have hb := nxt_lt hn
  obtain ⟨f1, f2, f3⟩ := nxt_free hi hn
  have hd0 := hd
  obtain ⟨d1, d2, d3, d4, d5⟩ := hd0
  have hdb := h.dbed hi hd
  have hbd : fdp p ≠ b := fun z => f1 (by rw [← z]; exact d5.1.1)
  obtain ⟨g1, g2, g3, g4, g5, g6⟩ := hd.leafs hk
  rw [hl] at g1 g2 g3 g4 g5 g6
  have hbl : l ≠ b := fun z => f1 (by rw [← z]; exact g3)
  have hz := ein_none hne
  rw [h4] at hz
  obtain ⟨μ0, a1, a2, a3, a4, a5⟩ := h.1.insert5 (val := val) g2 h4 hne
  have hG := h.beds (p5_same g1) a2 a3
  have hdg := p5_dg (p := p) (l := l) (s := spos p l key) (key := key) (val := val) g1
  have hr5 : RootOK (p5 p l (spos p l key) key val) := by
    have hs := hdg.1
    refine ⟨fun r hr => ?_, ?_, fun r hr => ?_⟩
    · rw [hs.gRe, hs.gRe]; exact hi.1.1 r hr
    · rw [hs.cureq, hs.gRe]; exact hi.1.2.1
    · rw [hs.gDe, hs.gDe]; exact hi.1.2.2 r hr
  obtain ⟨μ1, b1, b2, b3, b4, b5⟩ := hG.dig78 (kind := 0) hr5 (by rw [hdg.nxtEq]; exact hn) (by rw [p5_oth (by decide) (Or.inr ⟨by decide, by decide⟩)]; exact f2)
  obtain ⟨μ2, c1, c2, c3⟩ := b2.1.split5 (b := b) g2 hb hbl (by rw [b4]; exact a4) (by rw [b5]; exact a5)
  have lo : ∀ b' w, w < 6 → w ≠ 2 → gB (spB p l b (spos p l key) key val (dgB p b 0)) b' w = gB (dgB p b 0) b' w := fun b' w h1 h2 => spB_oth (by omega) (Or.inr ⟨h1, h2⟩)
  have ot : ∀ b' w, w < 14 → b' ≠ l → b' ≠ b → gB (spB p l b (spos p l key) key val (dgB p b 0)) b' w = gB p b' w := fun b' w hw h1 h2 => (spB_oth hw (Or.inl ⟨h1, h2⟩)).trans (dgB_ne h2 hw)
  have od : ∀ w, w < 14 → gB (spB p l b (spos p l key) key val (dgB p b 0)) (fdp p) w = gB p (fdp p) w := fun w hw => ot _ w hw g5.symm hbd
  have d2n : gB (spB p l b (spos p l key) key val (dgB p b 0)) (fdp p) 2 = nI (nB p (fdp p) 2) := by
    rw [od 2 (by decide)]
    exact d3.2.2.2.1
  obtain ⟨μ3, e1, e2, e3⟩ := c2.insertLeafR (x := nI b) (pl := k + 1) (n := nB p (fdp p) 2) d3.1 (by rw [od 0 (by decide), d5.1.1]; decide) (by rw [od 1 (by decide)]; exact d3.2.2.1) d2n (by omega) h6
  have hs1 : Same p (spB p l b (spos p l key) key val (dgB p b 0)) := (dgB_same hb).tr (spB_same g1 hb)
  have Ll : LeafOK (spB p l b (spos p l key) key val (dgB p b 0)) l := LeafOK.mk 3 (spK p l (spos p l key) key) g1 (by rw [lo l 0 (by decide) (by decide), dgB_ne hbl (by decide)]; exact g2.2.1) (by rw [lo l 1 (by decide) (by decide), dgB_ne hbl (by decide)]; exact g2.2.2.1) (spB_2l hbl) (by decide) (by decide) (fun i hi2 => (spB_kl hbl hi2).1) (fun i j hij hj => spK_lt g2 h4 hz hij (by omega))
  have Lb : LeafOK (spB p l b (spos p l key) key val (dgB p b 0)) b := LeafOK.mk 2 (fun j => spK p l (spos p l key) key (3 + j)) hb (by rw [lo b 0 (by decide) (by decide), dgB_eq.1]; decide) (by rw [lo b 1 (by decide) (by decide)]; exact dgB_eq.2.1) spB_2b (by decide) (by decide) (fun i hi2 => (spB_kb hi2).1) (fun i j hij hj => spK_lt g2 h4 hz (by omega) (by omega))
  have hI := INV_ins (pl := k + 1) (P := spB p l b (spos p l key) key val (dgB p b 0)) hi hd hn (by omega) h6 hs1 (fun b' w hb' h1 h2 => lo b' w h1 h2) (fun b' hb' h1 h2 w hw => ot b' w hw (fun z => by rw [z, h41] at h1; exact absurd h1 (by decide)) h2) od (fun i hi2 => by
    by_cases c : nB p (fdp p) (6 + i) = l
    · rw [c]
      exact Ll
    · obtain ⟨t1, t2, t3, t4, t5, t6⟩ := hd.leafs hi2
      exact t2.cgc (fun w hw _ => ot _ w hw c (fun z => f1 (by rw [← z]; exact t3)))) Lb
  have hsm := hs1.tr (inL_spec (p := spB p l b (spos p l key) key val (dgB p b 0)) (pl := k + 1) (m := nB p (fdp p) 2 - (k + 1)) (n := nB p (fdp p) 2) (x := nI b) d3.1 (by omega) h6).2.2.2
  refine ⟨_, b, μ0, μ1, μ2, μ3, a1, ?_, b1, c1, by rw [c3 g (by omega), b3 g (by omega), a3 g (by omega)]; exact hdb, e1, h.beds hsm e2 (((a3.tr b3).tr c3).tr e3), (((a3.tr b3).tr c3).tr e3).gfr, hI, fun q m f => splits_r g1 d3.1 hn d2n (by omega) h6 f⟩
  rw [a2.size g1 (by rw [p5_oth (by decide) (Or.inr ⟨by decide, by decide⟩)]; exact g2.2.1), p5_2]
/-- an entry is inserted into a leaf that has room -/
theorem RG.insE (h : RG g μ p) (hi : INV B p) (hd : HasDraft p) (hk : k < nB p (fdp p) 2) (hl : nB p (fdp p) (6 + k) = l) (h41 : gB p l 4 = 1) (h4 : nB p l 2 < 4) (hne : ein p l key = none) : ∃ (p1 : Nat → Int32) (μ1 : Mem), f_X1_insertEntry (g + 1) (nI l) key val μ = some μ1 ∧ f_X1_sizeOf (g + 1) (nI l) μ1 = some (nI (nB p l 2 + 1)) ∧ RG g μ1 p1 ∧ GFr g μ μ1 ∧ INV B p1 ∧ (∀ (q : Nat) (m : Mem), f_X7_inserts q (nI l) key val (rst m (q + 1) p) = some (rst m (q + 1) p1)) := by
  obtain ⟨g1, g2, g3, g4, g5, g6⟩ := hd.leafs hk
  rw [hl] at g1 g2 g3 g4 g5 g6
  obtain ⟨μ1, a1, a2, a3⟩ := h.1.insertEntryR (key := key) (val := val) g1 g2.2.1 g2.2.2.1 g2.2.2.2.1 h4
  obtain ⟨o1, o2, o3, o4⟩ := inE_ok (val := val) g1 g2.2.1 g2.2.2.1 h4 g2.2.2.2.2.2.2 (ein_none hne)
  refine ⟨_, μ1, a1, ?_, h.beds o3 a2 a3, a3.gfr, INV_leaf hi hd hk hl h41 o3 (fun b hb hne2 w hw => o2 b w hw (Or.inl hne2)) (fun w h1 h2 => o2 l w (by omega) (Or.inr ⟨h1, h2⟩)) o1, fun q m => inserts_r g1 g2.2.2.2.1 h4⟩
  rw [a2.size g1 (by rw [o2 l 0 (by decide) (Or.inr ⟨by decide, by decide⟩)]; exact g2.2.1), o4]
/-- a value is set -/
theorem RG.setV (h : RG g μ p) (hi : INV B p) (hd : HasDraft p) (hk : k < nB p (fdp p) 2) (hl : nB p (fdp p) (6 + k) = l) (h41 : gB p l 4 = 1) (he : ein p l key = some i) : ∃ (p1 : Nat → Int32) (μ1 : Mem), f_X1_setEntry (g + 1) (nI l) (nI i) key val μ = some μ1 ∧ RG g μ1 p1 ∧ GFr g μ μ1 ∧ INV B p1 ∧ (∀ (q : Nat) (m : Mem), f_X7_setEntry q (nI l) (nI i) key val (rst m (q + 1) p) = some (rst m (q + 1) p1)) := by
  obtain ⟨g1, g2, g3, g4, g5, g6⟩ := hd.leafs hk
  rw [hl] at g1 g2 g3 g4 g5 g6
  obtain ⟨z1, z2⟩ := ein_lt he
  have h4 := g2.2.2.2.2.2.1
  have hL : LeafOK (setE p l i key val) l := LeafOK.mk (nB p l 2) (fun j => gB p l (6 + 2 * j)) g1 (by rw [setE_lo (by omega) (by decide)]; exact g2.2.1) (by rw [setE_lo (by omega) (by decide)]; exact g2.2.2.1) (by rw [setE_lo (by omega) (by decide)]; exact g2.2.2.2.1) g2.2.2.2.2.1 h4 (fun j hj => by
    rw [(setE_k (by omega) (show j < 4 by omega)).1]
    by_cases c : j = i
    · rw [if_pos c, c, z2]
    · rw [if_neg c]) g2.2.2.2.2.2.2
  refine ⟨setE p l i key val, _, setEntryC_n g1 (by omega), h.beds (setE_same g1 (by omega)) (h.1.setEntR g1 g2.2.2.1 (by omega)) ((Fr.mst (by omega) (by omega)).tr (Fr.mst (by omega) (by omega))), ((Fr.mst (by omega) (by omega)).tr (Fr.mst (by omega) (by omega))).gfr, INV_leaf hi hd hk hl h41 (setE_same g1 (by omega)) (fun b hb hne w hw => setE_ne (by omega) hw hne) (fun w h1 h2 => setE_lo (by omega) h1) hL, fun q m => setEntry_r g1 (by omega)⟩
/-- an entry is cut out of a leaf that has more -/
theorem RG.cutE (h : RG g μ p) (hi : INV B p) (hd : HasDraft p) (hk : k < nB p (fdp p) 2) (hl : nB p (fdp p) (6 + k) = l) (h41 : gB p l 4 = 1) (h2 : 2 ≤ nB p l 2) (hii : i < nB p l 2) : ∃ (p1 : Nat → Int32) (μ1 : Mem), f_X1_cutEntry (g + 1) (nI l) (nI i) μ = some μ1 ∧ RG g μ1 p1 ∧ GFr g μ μ1 ∧ INV B p1 ∧ (∀ (q : Nat) (m : Mem) (x : Int32), f_X7_doRemove_b247 q FU x (nI l) (nI i) (rst m (q + 1) p) = some (x, rst m (q + 1) p1)) := by
  obtain ⟨g1, g2, g3, g4, g5, g6⟩ := hd.leafs hk
  rw [hl] at g1 g2 g3 g4 g5 g6
  have h4 := g2.2.2.2.2.2.1
  obtain ⟨o1, o2, o3⟩ := cutE_ok g2 hii rfl h2
  obtain ⟨μ1, a1, a2, a3⟩ := cutEntryC g1 (nB p l 2 - 1 - i) i FU μ p (nB p l 2) (by unfold FU; omega) h.1 g2.2.1 g2.2.2.1 (h.1.eqE g2) (by omega) h4
  refine ⟨_, μ1, ?_, h.beds o3 a2 a3, a3.gfr, INV_leaf hi hd hk hl h41 o3 (fun b hb hne2 w hw => o2 b w hw (Or.inl hne2)) (fun w z1 z2 => o2 l w (by omega) (Or.inr ⟨z1, z2⟩)) o1, fun q m x => cutEntryM g1 (nB p l 2 - 1 - i) i FU p (nB p l 2) (by unfold FU; omega) g2.2.2.2.1 (by omega) h4⟩
  unfold f_X1_cutEntry
  rw [h.1.size g1 g2.2.1, Option.bind_some, g2.2.2.2.1]
  exact a1
/-- a leaf is dropped -/
theorem RG.dropL (h : RG g μ p) (hi : INV B p) (hd : HasDraft p) (hk : k < nB p (fdp p) 2) (hl : nB p (fdp p) (6 + k) = l) : ∃ (p1 : Nat → Int32) (μ1 μ2 : Mem), f_X1_cutLeaf (g + 1) (nI (fdp p)) (nI k) μ = some μ1 ∧ f_X1_leave (g + 1) (nI l) μ1 = some μ2 ∧ RG g μ2 p1 ∧ GFr g μ μ2 ∧ INV B p1 ∧ (∀ (q : Nat) (m : Mem) (x : Int32), ∃ m1, f_X7_leaves q (nI l) (rst m (q + 1) p) = some m1 ∧ f_X7_doRemove_b170 q FU x (nI (fdp p)) (nI k) m1 = some (x, rst m (q + 1) p1)) := by
  obtain ⟨g1, g2, g3, g4, g5, g6⟩ := hd.leafs hk
  rw [hl] at g1 g2 g3 g4 g5 g6
  have hd0 := hd
  obtain ⟨d1, d2, d3, d4, d5⟩ := hd0
  have h6 := d3.2.2.2.2.1
  obtain ⟨a1, a2, a3, a4⟩ := cuL_spec (p := p) (d := fdp p) d3.1 hk h6
  obtain ⟨μ1, b1, b2, b3⟩ := cutLeafC d3.1 (nB p (fdp p) 2 - 1 - k) k FU μ p (nB p (fdp p) 2) (by unfold FU; omega) h.1 d3.2.1 d3.2.2.1 (h.1.eqL d3) (by omega) h6
  have b2' : RB (g + 1) μ1 (cuL p (fdp p) k (nB p (fdp p) 2)) := b2
  obtain ⟨μ2, c1, c2, c3⟩ := b2'.leave g1 (fun _ => by rw [a1 l 5 (by decide) (Or.inl g5)]; exact g4)
  have ed2 : gB (lvB p l) (fdp p) 2 = nI (nB p (fdp p) 2) := by
    rw [lvB_gB (by decide)]
    split
    · rw [if_neg g5.symm]; exact d3.2.2.2.1
    · rw [if_neg (fun z => g5 z.1.symm)]; exact d3.2.2.2.1
  obtain ⟨z1, z2, z3, z4⟩ := cuL_spec (p := lvB p l) (d := fdp p) d3.1 hk h6
  have comm : ∀ b' w', b' < 32 → w' < 14 → gB (cuL (lvB p l) (fdp p) k (nB p (fdp p) 2)) b' w' = gB (lvB (cuL p (fdp p) k (nB p (fdp p) 2)) l) b' w' := fun b' w' hb' hw => by
    have e4 : gB (cuL p (fdp p) k (nB p (fdp p) 2)) l 4 = gB p l 4 := a1 l 4 (by decide) (Or.inl g5)
    by_cases c : b' = fdp p
    · have ld : ∀ w, w < 14 → gB (lvB p l) (fdp p) w = gB p (fdp p) w := fun w hw => by
        rw [lvB_gB hw]
        split
        · rw [if_neg g5.symm]
        · rw [if_neg (fun z => g5 z.1.symm)]
      have ld2 : gB (lvB (cuL p (fdp p) k (nB p (fdp p) 2)) l) (fdp p) w' = gB (cuL p (fdp p) k (nB p (fdp p) 2)) (fdp p) w' := by
        rw [lvB_gB hw]
        split
        · rw [if_neg g5.symm]
        · rw [if_neg (fun z => g5 z.1.symm)]
      rw [c, ld2]
      have es : ∀ (m k : Nat) (p p' : Nat → Int32), k + m < 6 → (∀ w, w < 14 → gB p' (fdp p) w = gB p (fdp p) w) → True := fun _ _ _ _ _ _ => trivial
      by_cases c6 : w' < 6 ∧ w' ≠ 2
      · rw [z1 _ w' hw (Or.inr c6), a1 _ w' hw (Or.inr c6), ld w' hw]
      · by_cases c2 : w' = 2
        · rw [c2, z2, a2]
        · obtain ⟨i, hi2⟩ : ∃ i, w' = 6 + i := ⟨w' - 6, by omega⟩
          rw [hi2]
          unfold cuL
          rw [gB_sB (by decide) (by omega), if_neg (by omega), gB_sB (by decide) (by omega), if_neg (by omega)]
          by_cases c7 : i < 6
          · rw [(ctL_spec (d := fdp p) _ _ _ (by omega)).2 i c7, (ctL_spec (d := fdp p) _ _ _ (by omega)).2 i c7]
            split
            · exact ld _ (by omega)
            · exact ld _ (by omega)
          · have hh : ∀ (m k : Nat) (p : Nat → Int32) (d : Nat), k + m < 6 → gB (ctL d m k p) d (6 + i) = gB p d (6 + i) := by
              intro m
              induction m with
              | zero => intro k p d _; rfl
              | succ m ih =>
                intro k p d hkm
                show gB (ctL d m (k + 1) (sB p d (6 + k) (gB p d (6 + (k + 1))))) d (6 + i) = _
                rw [ih (k + 1) _ d (by omega), gB_sB (by omega) (by omega), if_neg (by omega)]
            rw [hh _ _ _ _ (by omega), hh _ _ _ _ (by omega)]
            exact ld _ (by omega)
    · rw [z1 b' w' hw (Or.inl c), lvB_gB hw, lvB_gB hw, e4, a1 b' w' hw (Or.inl c)]
  have hsm : Same p (cuL (lvB p l) (fdp p) k (nB p (fdp p) 2)) := (lvB_same g1).tr z4
  have hI := INV_drop hi hd hk hl hsm comm
  refine ⟨cuL (lvB p l) (fdp p) k (nB p (fdp p) 2), μ1, μ2, ?_, c1, h.beds hsm (c2.cg comm) (b3.tr c3), (b3.tr c3).gfr, hI.1, fun q m x => ⟨_, leaves_r g1, ?_⟩⟩
  · unfold f_X1_cutLeaf
    rw [h.1.size d3.1 d3.2.1, Option.bind_some, d3.2.2.2.1]
    exact b1
  · exact cutLeafM d3.1 (nB p (fdp p) 2 - 1 - k) k FU (lvB p l) (nB p (fdp p) 2) (by unfold FU; omega) ed2 (by omega) h6
end PBOTH
