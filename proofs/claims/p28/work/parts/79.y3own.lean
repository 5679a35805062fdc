/-! p28, PURE: the draft's own directory and its own leaf, with all that the law asks of them */ -/
section PYOWN
variable {g : Nat} {μ μ' : Mem} {p p' p'' P : Nat → Int32} {d d' l b n k i j r f : Nat} {key val : Int32} {B : Int}
theorem nNew_up (hf : f < 32) (h0 : gB p f 4 ≠ 1) (h1 : gB p' f 4 = 1) (ho : ∀ b, b < 32 → b ≠ f → gB p' b 4 = gB p b 4) : nNew p' = nNew p + 1 :=
  ct_drop 32 hf (decide_eq_true h1) (decide_eq_false h0) (fun j hj hne => by
    show decide (gB p' j 4 = 1) = decide (gB p j 4 = 1)
    rw [ho j hj hne])
theorem nNew_eq (ho : ∀ b, b < 32 → gB p' b 4 = gB p b 4) : nNew p' = nNew p :=
  ct_cg 32 (fun j hj => by
    show decide (gB p' j 4 = 1) = decide (gB p j 4 = 1)
    rw [ho j hj])
theorem ne41 {x : Int32} (h : x = 0) : x ≠ 1 := by rw [h]; decide
/-- what a step of a change leaves: new beds stay new, c beds are dug, the first of them is the one that was next -/
def FinX (p p' : Nat → Int32) (c : Nat) : Prop := KeepD p p' ∧ nNew p' = nNew p + c ∧ (∀ b, b < 32 → gB p b 4 = 1 → gB p' b 4 = 1) ∧ (0 < c → ∀ b, nxt p = some b → gB p' b 4 = 1)
def StepX (p p' : Nat → Int32) (c : Nat) : Prop := many p = many p' + c ∧ (c = 0 → nxt p' = nxt p) ∧ FinX p p' c
theorem StepX.fin {c c' : Nat} (h : StepX p p' c) (h' : FinX p' p'' c') : FinX p p'' (c + c') := by
  obtain ⟨a2, a5, a1, a3, a4, a6⟩ := h
  obtain ⟨b1, b3, b4, b6⟩ := h'
  refine ⟨a1.tr b1, by omega, fun b hb h => b4 b hb (a4 b hb h), fun h b hb => ?_⟩
  by_cases c0 : 0 < c
  · exact b4 b (nxt_lt hb) (a6 c0 b hb)
  · refine b6 (by omega) b ?_
    rw [a5 (by omega)]
    exact hb
theorem StepX.tr {c c' : Nat} (h : StepX p p' c) (h' : StepX p' p'' c') : StepX p p'' (c + c') := ⟨by have := h.1; have := h'.1; omega, fun z => (h'.2.1 (by omega)).trans (h.2.1 (by omega)), h.fin h'.2.2⟩
theorem StepX.rf : StepX p p 0 := ⟨rfl, fun _ => rfl, KeepD.rf, rfl, fun _ _ h => h, fun h => absurd h (by decide)⟩
theorem dir28 (h : RG g μ p) (hi : INV B p) (hw : WX p) (hd : p 466 = 1) (hm : dN p ≤ many p) : ∃ (p1 : Nat → Int32) (μ1 : Mem), f_X4_ownDirectory g μ = some μ1 ∧ RG g μ1 p1 ∧ GFr g μ μ1 ∧ INV B p1 ∧ HasDraft p1 ∧ WX p1 ∧ StepX p p1 (dN p) ∧ nB p1 (fdp p1) 2 = nB p (drd p) 2 ∧ (∀ i, i < nB p (drd p) 2 → nB p1 (fdp p1) (6 + i) = nB p (drd p) (6 + i) ∧ ∀ w, w < 14 → gB p1 (nB p (drd p) (6 + i)) w = gB p (nB p (drd p) (6 + i)) w) := by
  by_cases hl : p 467 < 0
  · have e1 : dN p = 1 := if_pos hl
    have e2 : drd p = cd p := if_pos hl
    obtain ⟨f, hn⟩ := nxt_some (p := p) (by omega)
    have hf := nxt_lt hn
    obtain ⟨f1, f2, f3⟩ := nxt_free hi hn
    obtain ⟨d1, d2, d3⟩ := hi.2.2.1
    have hd32 := d2.1
    have hdf : cd p ≠ f := fun z => f1 (by rw [← z]; exact d3.1.1)
    have h4 := d3.1.2
    obtain ⟨μ1, a1, a2, a3⟩ := h.ownDirectory hi hd hl hn
    have hI := INV_oD hi hd hl hn
    have hsame : Same (sS (dgB p f 1) 467 (nI f)) (oD p (cd p) f) := (cpB_same hf).tr (lvB_same hd32)
    have h467 : oD p (cd p) f 467 = nI f := by
      rw [hsame 467 (by decide)]
      exact upd_eq
    have hpc : ∀ i, 448 ≤ i → i ≠ 467 → oD p (cd p) f i = p i := fun i h1 h2 => by
      rw [hsame i h1, show sS (dgB p f 1) 467 (nI f) i = dgB p f 1 i from upd_ne h2, dgB_same hf i h1]
    have hD := hI.draft (by rw [h467]; exact nI_nz (by omega))
    have ef : fdp (oD p (cd p) f) = f := by
      unfold fdp
      rw [h467, nI_clamp (by omega)]
    have edr : drd (oD p (cd p) f) = f := by
      unfold drd
      rw [if_neg (by rw [h467]; exact nI_nz (by omega)), ef]
    have hk : ∀ i, i < nB p (cd p) 2 → nB p (cd p) (6 + i) < 32 ∧ nB p (cd p) (6 + i) ≠ f ∧ nB p (cd p) (6 + i) ≠ cd p := fun i hi2 => by
      have hL := (d2.2.2.2.2.2.1 i hi2).2
      refine ⟨hL.1, fun z => f1 (by rw [← z]; exact (d3.2 i hi2).1), fun z => ?_⟩
      have q1 := hL.2.2.1
      rw [z, d2.2.2.1] at q1
      exact absurd q1 (by decide)
    have new0 : ∀ w, w < 14 → gB (oD p (cd p) f) f w = if w = 2 ∨ 6 ≤ w then gB p (cd p) w else gB (dgB p f 1) f w := fun w hw => oD_new hf hd32 hw h4 hdf
    have oth : ∀ b w, b < 32 → w < 14 → b ≠ f → ¬ (b = cd p ∧ w = 5) → gB (oD p (cd p) f) b w = gB p b w := fun b w hb hw h1 h2 => oD_other hf hb hd32 hw h4 hdf h1 h2
    have n0 : gB (oD p (cd p) f) f 0 = 1 := (new0 0 (by decide)).trans ((if_neg (by decide)).trans dgB_eq.1)
    have n1 : gB (oD p (cd p) f) f 1 = 1 := (new0 1 (by decide)).trans ((if_neg (by decide)).trans dgB_eq.2.1)
    have n2 : gB (oD p (cd p) f) f 2 = gB p (cd p) 2 := (new0 2 (by decide)).trans (if_pos (Or.inl rfl))
    have n4 : gB (oD p (cd p) f) f 4 = 1 := (new0 4 (by decide)).trans ((if_neg (by decide)).trans dgB_eq.2.2.2.2.1)
    have h6 := d2.2.2.2.2.1
    have en2 : nB (oD p (cd p) f) f 2 = nB p (cd p) 2 := nB_of n2
    have enl : ∀ i, i < nB p (cd p) 2 → nB (oD p (cd p) f) f (6 + i) = nB p (cd p) (6 + i) := fun i hi2 => nB_of (by rw [new0 (6 + i) (by omega), if_pos (Or.inr (by omega))])
    have lfe : ∀ i, i < nB p (cd p) 2 → ∀ w, w < 14 → gB (oD p (cd p) f) (nB p (cd p) (6 + i)) w = gB p (nB p (cd p) (6 + i)) w := fun i hi2 w hw => oth _ w (hk i hi2).1 hw (hk i hi2).2.1 (fun z => (hk i hi2).2.2 z.1)
    have hdeq : DEq p (cd p) (oD p (cd p) f) f := ⟨en2, fun i hi2 => by
      rw [enl i hi2]
      exact ⟨nB_of (lfe i hi2 2 (by decide)), fun w _ hw => lfe i hi2 w hw⟩⟩
    have hK : KeepD p (oD p (cd p) f) := ⟨hpc, fun b hb hkp w hw h5 => oth b w hb hw (hkp.ne hi hn) (fun z => h5 z.2)⟩
    have hW : WX (oD p (cd p) f) := by
      refine WX_gen hi hw hK (fun b hb h0 => ?_) (fun b hb h0 => ?_) ?_ (fun _ => oD_left hf hd32 h4 hdf)
      · by_cases c : b = f
        · rw [c]
          exact Or.inr ⟨n1, nB p (cd p) 2, h6, n2.trans d2.2.2.2.1⟩
        · rw [oth b 0 hb (by decide) c (by omega)] at h0
          rw [oth b 1 hb (by decide) c (by omega), oth b 2 hb (by decide) c (by omega)]
          exact hw.1 b hb h0
      · by_cases c : b = f
        · rw [c, n0] at h0
          exact absurd h0 (by decide)
        · rw [oth b 0 hb (by decide) c (by omega)] at h0
          exact ⟨h0, oth b 3 hb (by decide) c (by omega)⟩
      · rw [edr]
        exact hw.2.2.1.of hdeq d2
    have hf4 : ∀ b, b < 32 → b ≠ f → gB (oD p (cd p) f) b 4 = gB p b 4 := fun b hb hne => oth b 4 hb (by decide) hne (by omega)
    refine ⟨oD p (cd p) f, μ1, a1, a2, fun k hk => a3 k hk, hI, hD, hW, ?_, by rw [ef, e2]; exact en2, fun i hi2 => ?_⟩
    · rw [e1]
      refine ⟨?_, fun z => absurd z (by decide), hK, nNew_up hf (ne41 f3) n4 hf4, fun b hb h => ?_, fun _ b hb => ?_⟩
      · rw [many_dg (kind := 1) hn dgB_eq.1]
        have hq : need (oD p (cd p) f) (-1) = need (dgB p f 1) (-1) := need_cg (fun r v hr hv => (hpc _ (by omega) (by omega)).trans (dgB_same hf _ (by omega)).symm) (fun r v hr hv => (hpc _ (by omega) (by omega)).trans (dgB_same hf _ (by omega)).symm) _
        have e4 : ¬ gB (cpB (dgB p f 1) (cd p) f) (cd p) 4 = 1 := by
          rw [cpB_gB (by decide), if_neg (fun z => hdf z.1), dgB_ne hdf (by decide), h4]
          decide
        rw [(many_cg hq (fun b hb => by
          rw [oD_gB hf hb hd32 (by decide) h4 hdf, lvB_gB (by decide), if_neg e4, if_neg (by omega), cpB_gB (by decide), if_neg (by omega), oD_gB hf hb hd32 (by decide) h4 hdf, lvB_gB (by decide), if_neg e4, if_neg (by omega), cpB_gB (by decide), if_neg (by omega)]
          exact ⟨rfl, rfl⟩)).1]
      · by_cases c : b = f
        · rw [c]
          exact n4
        · rw [hf4 b hb c]
          exact h
      · rw [hn] at hb
        cases hb
        exact n4
    · rw [e2] at hi2
      rw [ef, e2]
      exact ⟨enl i hi2, lfe i hi2⟩
  · have hD := hi.draft hl
    have e1 : dN p = 0 := if_neg hl
    have e2 : drd p = fdp p := if_neg hl
    have hdb := h.draftBed hi hd
    rw [e2] at hdb
    refine ⟨p, μ, ?_, h, GFr.rf, hi, hD, hw, by rw [e1]; exact StepX.rf, by rw [e2], fun i hi2 => ⟨by rw [e2], fun w hw => rfl⟩⟩
    unfold f_X4_ownDirectory f_X4_ownDirectory_b48
    rw [hdb, h.fresh hD.2.2.1.1, hD.2.2.2.1, Option.bind_some, if_neg (by decide)]
theorem drd_fdp (hd : HasDraft p) : drd p = fdp p := if_neg hd.nlt
theorem own28 (h : RG g μ p) (hi : INV B p) (hw : WX p) (hd : HasDraft p) (hk : k < nB p (fdp p) 2) (hl : nB p (fdp p) (6 + k) = l) (hm : cN p l ≤ many p) : ∃ (p1 : Nat → Int32) (μ1 : Mem) (l1 : Nat), f_X4_ownLeaf g (nI k) μ = some (nI l1, μ1) ∧ RG g μ1 p1 ∧ GFr g μ μ1 ∧ INV B p1 ∧ HasDraft p1 ∧ WX p1 ∧ fdp p1 = fdp p ∧ StepX p p1 (cN p l) ∧ nB p1 (fdp p) 2 = nB p (fdp p) 2 ∧ nB p1 (fdp p) (6 + k) = l1 ∧ gB p1 l1 4 = 1 ∧ (∀ w, w < 14 → (w = 2 ∨ 6 ≤ w) → gB p1 l1 w = gB p l w) ∧ DEq p (fdp p) p1 (fdp p) := by
  have hd0 := hd
  obtain ⟨d1, d2, d3, d4, d5⟩ := hd0
  have h6 := d3.2.2.2.2.1
  have hdb := h.dbed hi hd
  obtain ⟨g1, g2, g3, g4, g5, g6⟩ := hd.leafs hk
  have hlf := h.1.leaf d3 hk
  rw [hl] at g1 g2 g3 g4 g5 g6 hlf
  by_cases c4 : gB p l 4 = 1
  · have ec : cN p l = 0 := if_pos c4
    refine ⟨p, μ, l, ?_, h, GFr.rf, hi, hd, hw, rfl, by rw [ec]; exact StepX.rf, rfl, hl, c4, fun w hw _ => rfl, DEq.rf⟩
    unfold f_X4_ownLeaf
    rw [hdb, hlf, Option.bind_some, h.fresh g1, c4, Option.bind_some, if_neg (by decide)]
  · have ec : cN p l = 1 := if_neg c4
    obtain ⟨f, hn⟩ := nxt_some (p := p) (by omega)
    have hf := nxt_lt hn
    obtain ⟨f1, f2, f3⟩ := nxt_free hi hn
    have h40 : gB p l 4 = 0 := (hi.2.1 l g1).2.1.resolve_right c4
    have hlf2 : l ≠ f := fun z => f1 (by rw [← z]; exact g3)
    have hdf : fdp p ≠ f := fun z => f1 (by rw [← z]; exact d5.1.1)
    obtain ⟨i1, i2, i3, i4, i5, i6, i7⟩ := INV_own hi hd hk hl c4 hn
    obtain ⟨μ1, a1, a2, a3⟩ := h.dig (kind := 0) hi.1 hn f2
    have hL1 : LeafOK (dgB p f 0) l := g2.cgc (fun w hw _ => dgB_ne hlf2 hw)
    obtain ⟨μ2, b1, b2, b3⟩ := a2.1.copyLeaf hL1 hf hlf2 (by rw [dgB_eq.1]; decide) dgB_eq.2.1
    have e4 : gB (cpB (dgB p f 0) l f) l 4 = 0 := by
      rw [cpB_gB (by decide), if_neg (fun z => hlf2 z.1), dgB_ne hlf2 (by decide)]
      exact h40
    obtain ⟨μ3, c1, c2, c3⟩ := b2.leave g1 (fun z => by rw [e4] at z; exact absurd z (by decide))
    have g7 : μ3 g 7 = nI (fdp p) := by rw [c3 g (by omega), b3 g (by omega), a3 g (by omega)]; exact hdb
    have k1 : gB (lvB (cpB (dgB p f 0) l f) l) (fdp p) 1 = 1 := by
      rw [lvB_gB (by decide), if_neg (by rw [e4]; decide), if_neg (by omega), cpB_gB (by decide), if_neg (by omega), dgB_ne hdf (by decide)]
      exact d3.2.2.1
    have r4 := c2.setLeafR (x := nI f) d3.1 k1 (i := k) (by omega)
    have fr : Fr (g + 1) μ (mst μ3 (g + 1 + 9) (6 * fdp p + k) (nI f)) := ((a3.tr b3).tr c3).tr (Fr.mst (by omega) (by omega))
    have hs := owL_same (p := p) (k := k) g1 hf d3.1 (by omega)
    have e : ∀ b' w', w' < 14 → gB (owL p (fdp p) k l f) b' w' = if b' = fdp p ∧ w' = 6 + k then nI f else if b' = l ∧ w' = 5 then 1 else if b' = f ∧ (w' = 2 ∨ 6 ≤ w') then gB p l w' else gB (dgB p f 0) b' w' := fun b' w' hw => owL_gB hw h40 hlf2 (by omega)
    have oth : ∀ b' w', w' < 14 → b' ≠ f → ¬ (b' = fdp p ∧ w' = 6 + k) → ¬ (b' = l ∧ w' = 5) → gB (owL p (fdp p) k l f) b' w' = gB p b' w' := fun b' w' hw h1 h2 h3 => by
      rw [e b' w' hw, if_neg h2, if_neg h3, if_neg (fun z => h1 z.1), dgB_ne h1 hw]
    have nf : ∀ w', w' < 14 → ¬ (w' = 2 ∨ 6 ≤ w') → gB (owL p (fdp p) k l f) f w' = gB (dgB p f 0) f w' := fun w' hw h1 => by
      rw [e f w' hw, if_neg (fun z => hdf z.1.symm), if_neg (fun z => hlf2 z.1.symm), if_neg (fun z => h1 z.2)]
    have n0 : gB (owL p (fdp p) k l f) f 0 = 1 := (nf 0 (by decide) (by decide)).trans dgB_eq.1
    have n1 : gB (owL p (fdp p) k l f) f 1 = 0 := (nf 1 (by decide) (by decide)).trans dgB_eq.2.1
    have n2 : gB (owL p (fdp p) k l f) f 2 = gB p l 2 := i6 2 (by decide) (Or.inl rfl)
    have hK : KeepD p (owL p (fdp p) k l f) := ⟨fun i h1 _ => hs i h1, fun b hb hkp w hw h5 => oth b w hw (hkp.ne hi hn) (fun z => by
      have z1 := z.1
      subst z1
      rcases hkp with c | c
      · rw [d4] at c
        exact absurd c.2 (by decide)
      · rw [d5.1.1] at c
        exact absurd c.1 (by decide)) (fun z => h5 z.2)⟩
    have edr : drd (owL p (fdp p) k l f) = fdp p := (drd_fdp i2).trans hs.fdpEq
    have hdeq : DEq p (fdp p) (owL p (fdp p) k l f) (fdp p) := ⟨i3, fun i hi2 => by
      by_cases c : i = k
      · subst c
        rw [i4, hl]
        exact ⟨nB_of n2, fun w h1 h2 => i6 w h2 (Or.inr h1)⟩
      · obtain ⟨q1, q2, q3, q4, q5, q6⟩ := hd.leafs hi2
        have q7 : nB p (fdp p) (6 + i) ≠ l := fun z => c (d3.2.2.2.2.2.2 i k hi2 hk (z.trans hl.symm))
        have q8 : nB p (fdp p) (6 + i) ≠ f := fun z => f1 (by rw [← z]; exact q3)
        have el : nB (owL p (fdp p) k l f) (fdp p) (6 + i) = nB p (fdp p) (6 + i) := nB_of (oth _ _ (by omega) hdf (by omega) (fun z => g5 z.1.symm))
        rw [el]
        exact ⟨nB_of (oth _ 2 (by decide) q8 (fun z => q5 z.1) (by omega)), fun w h1 h2 => oth _ w h2 q8 (fun z => q5 z.1) (by omega)⟩⟩
    have hW : WX (owL p (fdp p) k l f) := by
      refine WX_gen hi hw hK (fun b hb h0 => ?_) (fun b hb h0 => ?_) ?_ (fun h => ?_)
      · by_cases c : b = f
        · rw [c]
          exact Or.inl ⟨n1, nB p l 2, g2.2.2.2.2.1, g2.2.2.2.2.2.1, n2.trans g2.2.2.2.1⟩
        · rw [oth b 0 (by decide) c (by omega) (by omega)] at h0
          rw [oth b 1 (by decide) c (by omega) (by omega), oth b 2 (by decide) c (by omega) (by omega)]
          exact hw.1 b hb h0
      · by_cases c : b = f
        · rw [c, n0] at h0
          exact absurd h0 (by decide)
        · rw [oth b 0 (by decide) c (by omega) (by omega)] at h0
          exact ⟨h0, oth b 3 (by decide) c (by omega) (by omega)⟩
      · rw [edr]
        refine DirS.of hdeq d3 ?_
        rw [← drd_fdp hd]
        exact hw.2.2.2.2.1
      · have h5 := hw.2.2.2.2.2.2.2 hd.nlt
        by_cases c : cd p = f
        · exact absurd hi.2.2.1.2.2.1.1 (by rw [c]; exact f1)
        · rw [e _ 5 (by decide), if_neg (by omega)]
          by_cases c2 : cd p = l
          · rw [if_pos ⟨c2, rfl⟩]
          · rw [if_neg (fun z => c2 z.1), if_neg (fun z => c z.1), dgB_ne c (by decide)]
            exact h5
    have hf4 : ∀ b, b < 32 → b ≠ f → gB (owL p (fdp p) k l f) b 4 = gB p b 4 := fun b hb hne => oth b 4 (by decide) hne (by omega) (by omega)
    refine ⟨owL p (fdp p) k l f, _, f, ?_, h.beds hs r4 fr, fr.gfr, i1, i2, hW, hs.fdpEq, ?_, i3, i4, i5, i6, hdeq⟩
    · unfold f_X4_ownLeaf
      rw [hdb, hlf, Option.bind_some, h.fresh g1, Option.bind_some, if_neg c4, if_pos rfl, a1, bn2_some, b1, Option.bind_some, c1, Option.bind_some, g7, setLeaf_n d3.1 (by omega), Option.bind_some]
    · rw [ec]
      refine ⟨i7, fun z => absurd z (by decide), hK, nNew_up hf (ne41 f3) i5 hf4, fun b hb h => ?_, fun _ b hb => ?_⟩
      · by_cases c : b = f
        · rw [c]
          exact i5
        · rw [hf4 b hb c]
          exact h
      · rw [hn] at hb
        cases hb
        exact i5
end PYOWN
