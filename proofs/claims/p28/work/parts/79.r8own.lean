/-! PURE, well-formed directories stay where nothing of theirs is written; the class's own directory -/
section POWN
variable {q g : Nat} {μ μ' : Mem} {p p' : Nat → Int32} {l b b' w' n s k d f pl : Nat} {key val kind x : Int32} {B : Int}
theorem LeafOK.cg (h : LeafOK p l) (e : ∀ w, w < 14 → gB p' l w = gB p l w) : LeafOK p' l := by
  have e2 : nB p' l 2 = nB p l 2 := nB_of (e 2 (by decide))
  obtain ⟨h1, h2, h3, h4, h5, h6, h7⟩ := h
  refine ⟨h1, by rw [e 0 (by decide)]; exact h2, by rw [e 1 (by decide)]; exact h3, by rw [e 2 (by decide), e2]; exact h4, by rw [e2]; exact h5, by rw [e2]; exact h6, fun i j hij hj => ?_⟩
  rw [e2] at hj
  rw [e _ (by omega), e _ (by omega)]
  exact h7 i j hij hj
theorem DirOK.cg (h : DirOK p d) (e : ∀ w, w < 14 → gB p' d w = gB p d w) (el : ∀ i, i < nB p d 2 → ∀ w, w < 14 → gB p' (nB p d (6 + i)) w = gB p (nB p d (6 + i)) w) : DirOK p' d := by
  have e2 : nB p' d 2 = nB p d 2 := nB_of (e 2 (by decide))
  obtain ⟨h1, h2, h3, h4, h5, h6, h7⟩ := h
  have ei : ∀ i, i < nB p d 2 → nB p' d (6 + i) = nB p d (6 + i) := fun i hi => nB_of (e _ (by omega))
  refine ⟨h1, by rw [e 0 (by decide)]; exact h2, by rw [e 1 (by decide)]; exact h3, by rw [e 2 (by decide), e2]; exact h4, by rw [e2]; exact h5, fun i hi => ?_, fun i j hi hj hij => ?_⟩
  · rw [e2] at hi
    rw [ei i hi, e _ (by omega)]
    exact ⟨(h6 i hi).1, (h6 i hi).2.cg (el i hi)⟩
  · rw [e2] at hi hj
    rw [ei i hi, ei j hj] at hij
    exact h7 i j hi hj hij
theorem oD_gB (hf : f < 32) (hb : b' < 32) (hd : d < 32) (hw : w' < 14) (h4 : gB p d 4 = 0) (hdf : d ≠ f) : gB (oD p d f) b' w' = gB (lvB (cpB (dgB p f 1) d f) d) b' w' := by
  have e : ∀ b w, b < 32 → w < 14 → gB (cpB (sS (dgB p f 1) 467 (nI f)) d f) b w = gB (cpB (dgB p f 1) d f) b w := fun b w hb hw => by
    rw [cpB_gB hw, cpB_gB hw, gB_sS (by decide) hd hw, gB_sS (by decide) hb hw]
  unfold oD
  rw [lvB_gB hw, lvB_gB hw, e d 4 hd (by decide), e b' w' hb hw]
theorem RG.ownDirectory (h : RG g μ p) (hi : INV B p) (hd : p 466 = 1) (hl : p 467 < 0) (hn : nxt p = some f) : ∃ μ', f_X4_ownDirectory g μ = some μ' ∧ RG g μ' (oD p (cd p) f) ∧ ∀ k, (k < g ∨ g + 16 ≤ k) → μ' k = μ k := by
  have hf := nxt_lt hn
  obtain ⟨d1, d2, d3⟩ := hi.2.2.1
  obtain ⟨f1, f2, f3⟩ := nxt_free hi hn
  have hd32 := d2.1
  have hdf : cd p ≠ f := fun z => f1 (by rw [← z]; exact d3.1.1)
  have hdr : drd p = cd p := if_pos hl
  have hdb := h.draftBed hi hd
  rw [hdr] at hdb
  obtain ⟨μ1, a1, a2, a3⟩ := h.dig (kind := 1) hi.1 hn f2
  have hne : ∀ i, i < nB p (cd p) 2 → nB p (cd p) (6 + i) ≠ f := fun i hi2 z => f1 (by rw [← z]; exact (d3.2 i hi2).1)
  have hD1 : DirOK (dgB p f 1) (cd p) := d2.cg (fun w hw => dgB_ne hdf hw) (fun i hi2 w hw => dgB_ne (hne i hi2) hw)
  obtain ⟨μ2, b1, b2, b3⟩ := a2.1.copyDirectory hD1 hf hdf (by rw [dgB_eq.1]; decide) dgB_eq.2.1
  have e4 : gB (cpB (dgB p f 1) (cd p) f) (cd p) 4 = 0 := by
    rw [cpB_gB (by decide), if_neg (fun z => hdf z.1), dgB_ne hdf (by decide)]
    exact d3.1.2
  obtain ⟨μ3, c1, c2, c3⟩ := b2.leave hd32 (fun z => by rw [e4] at z; exact absurd z (by decide))
  have g7a : μ1 g 7 = nI (cd p) := by rw [a3 g (by omega)]; exact hdb
  have g7b : μ2 g 7 = nI (cd p) := by rw [b3 g (by omega)]; exact g7a
  have hsame : Same (sS (dgB p f 1) 467 (nI f)) (oD p (cd p) f) := (cpB_same hf).tr (lvB_same hd32)
  have hs0 : Same p (dgB p f 1) := dgB_same hf
  have hpc : ∀ i, 448 ≤ i → i ≠ 467 → oD p (cd p) f i = p i := fun i h1 h2 => by
    rw [hsame i h1, show sS (dgB p f 1) 467 (nI f) i = dgB p f 1 i from upd_ne h2, hs0 i h1]
  have h467 : oD p (cd p) f 467 = nI f := by
    rw [hsame 467 (by decide)]
    exact upd_eq
  refine ⟨mst μ3 g 7 (nI f), ?_, ⟨?_, fun r hr => ?_, fun r hr => ?_, ?_, ?_, ?_, ?_⟩, fun k hk => ?_⟩
  · unfold f_X4_ownDirectory f_X4_ownDirectory_b48
    rw [hdb, h.fresh hd32, d3.1.2, Option.bind_some, if_pos (by decide), a1, bn2_some, g7a, b1, Option.bind_some, g7b, c1, Option.bind_some]
    rfl
  · have hq := c2.cg (p' := oD p (cd p) f) (fun b w hb hw => oD_gB hf hb hd32 hw d3.1.2 hdf)
    refine ⟨fun b hb => ?_, fun b hb h0 h1 i hi h4 => ?_, fun b hb h0 h1 i hi h4 => ?_⟩
    · rw [mst_ne (by omega), mst_ne (by omega), mst_ne (by omega), mst_ne (by omega), mst_ne (by omega), mst_ne (by omega)]
      exact hq.1 b hb
    · rw [mst_ne (by omega), mst_ne (by omega)]
      exact hq.2.1 b hb h0 h1 i hi h4
    · rw [mst_ne (by omega)]
      exact hq.2.2 b hb h0 h1 i hi h4
  · have e := h.2.1 r hr
    have z : ∀ v, v < 3 → gR (oD p (cd p) f) r v = gR p r v := fun v hv => hpc _ (by omega) (by omega)
    rw [z 0 (by decide), z 1 (by decide), z 2 (by decide), mst_ne (by omega), mst_ne (by omega), mst_ne (by omega), c3 (g + 11) (by omega), c3 (g + 12) (by omega), c3 (g + 13) (by omega), b3 (g + 11) (by omega), b3 (g + 12) (by omega), b3 (g + 13) (by omega), a3 (g + 11) (by omega), a3 (g + 12) (by omega), a3 (g + 13) (by omega)]
    exact e
  · have e := h.2.2.1 r hr
    have z : ∀ v, v < 3 → gD (oD p (cd p) f) r v = gD p r v := fun v hv => hpc _ (by omega) (by omega)
    rw [z 0 (by decide), z 1 (by decide), z 2 (by decide), mst_ne (by omega), mst_ne (by omega), c3 (g + 14) (by omega), c3 (g + 15) (by omega), b3 (g + 14) (by omega), b3 (g + 15) (by omega), a3 (g + 14) (by omega), a3 (g + 15) (by omega)]
    exact e
  · rw [mst_eq, upd_ne (by decide), c3 g (by omega), b3 g (by omega), a3 g (by omega), hpc 466 (by decide) (by decide)]
    exact h.2.2.2.1
  · have hnl : ¬ oD p (cd p) f 467 < 0 := by rw [h467]; exact nI_nz (by omega)
    rw [mst_eq, upd_eq, hpc 466 (by decide) (by decide), if_pos hd]
    unfold drf
    rw [if_neg hnl, h467]
  · rw [mst_eq, upd_ne (by decide), c3 g (by omega), b3 g (by omega), a3 g (by omega), hpc 468 (by decide) (by decide)]
    exact h.2.2.2.2.2.1
  · rw [mst_eq, upd_ne (by decide), c3 g (by omega), b3 g (by omega), a3 g (by omega), hpc 469 (by decide) (by decide)]
    exact h.2.2.2.2.2.2
  · rw [mst_ne (by omega), c3 k (by omega), b3 k (by omega), a3 k (by omega)]
end POWN
