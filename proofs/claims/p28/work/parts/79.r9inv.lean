/-! PURE, the invariant: what it rests on of a page -/
section PINVC
variable {q g : Nat} {μ μ' : Mem} {p p' : Nat → Int32} {l b b' w' n s k d f pl : Nat} {key val kind x : Int32} {B : Int}
/-- the fields that a well-formed directory rests on: state, kind, size and contents -/
theorem LeafOK.cgc (h : LeafOK p l) (e : ∀ w, w < 14 → (w < 3 ∨ 6 ≤ w) → gB p' l w = gB p l w) : LeafOK p' l := by
  have e2 : nB p' l 2 = nB p l 2 := nB_of (e 2 (by decide) (by decide))
  obtain ⟨h1, h2, h3, h4, h5, h6, h7⟩ := h
  refine ⟨h1, by rw [e 0 (by decide) (by decide)]; exact h2, by rw [e 1 (by decide) (by decide)]; exact h3, by rw [e 2 (by decide) (by decide), e2]; exact h4, by rw [e2]; exact h5, by rw [e2]; exact h6, fun i j hij hj => ?_⟩
  rw [e2] at hj
  rw [e _ (by omega) (by omega), e _ (by omega) (by omega)]
  exact h7 i j hij hj
theorem DirOK.cgc (h : DirOK p d) (e : ∀ w, w < 14 → (w < 3 ∨ 6 ≤ w) → gB p' d w = gB p d w) (el : ∀ i, i < nB p d 2 → ∀ w, w < 14 → (w < 3 ∨ 6 ≤ w) → gB p' (nB p d (6 + i)) w = gB p (nB p d (6 + i)) w) : DirOK p' d ∧ nB p' d 2 = nB p d 2 ∧ ∀ i, i < nB p d 2 → nB p' d (6 + i) = nB p d (6 + i) := by
  have e2 : nB p' d 2 = nB p d 2 := nB_of (e 2 (by decide) (by decide))
  obtain ⟨h1, h2, h3, h4, h5, h6, h7⟩ := h
  have ei : ∀ i, i < nB p d 2 → nB p' d (6 + i) = nB p d (6 + i) := fun i hi => nB_of (e _ (by omega) (by omega))
  refine ⟨⟨h1, by rw [e 0 (by decide) (by decide)]; exact h2, by rw [e 1 (by decide) (by decide)]; exact h3, by rw [e 2 (by decide) (by decide), e2]; exact h4, by rw [e2]; exact h5, fun i hi => ?_, fun i j hi hj hij => ?_⟩, e2, ei⟩
  · rw [e2] at hi
    rw [ei i hi, e _ (by omega) (by omega)]
    exact ⟨(h6 i hi).1, (h6 i hi).2.cgc (el i hi)⟩
  · rw [e2] at hi hj
    rw [ei i hi, ei j hj] at hij
    exact h7 i j hi hj hij
theorem oD_other (hf : f < 32) (hb : b < 32) (hd : d < 32) (hw : w' < 14) (h4 : gB p d 4 = 0) (hdf : d ≠ f) (hbf : b ≠ f) (hbd : ¬ (b = d ∧ w' = 5)) : gB (oD p d f) b w' = gB p b w' := by
  have e4 : ¬ gB (cpB (dgB p f 1) d f) d 4 = 1 := by
    rw [cpB_gB (by decide), if_neg (fun z => hdf z.1), dgB_ne hdf (by decide), h4]
    decide
  rw [oD_gB hf hb hd hw h4 hdf, lvB_gB hw, if_neg e4, if_neg hbd, cpB_gB hw, if_neg (fun z => hbf z.1), dgB_ne hbf hw]
theorem oD_left (hf : f < 32) (hd : d < 32) (h4 : gB p d 4 = 0) (hdf : d ≠ f) : gB (oD p d f) d 5 = 1 := by
  have e4 : ¬ gB (cpB (dgB p f 1) d f) d 4 = 1 := by
    rw [cpB_gB (by decide), if_neg (fun z => hdf z.1), dgB_ne hdf (by decide), h4]
    decide
  rw [oD_gB hf hd hd (by decide) h4 hdf, lvB_gB (by decide), if_neg e4, if_pos ⟨rfl, rfl⟩]
theorem oD_new (hf : f < 32) (hd : d < 32) (hw : w' < 14) (h4 : gB p d 4 = 0) (hdf : d ≠ f) : gB (oD p d f) f w' = if w' = 2 ∨ 6 ≤ w' then gB p d w' else gB (dgB p f 1) f w' := by
  have e4 : ¬ gB (cpB (dgB p f 1) d f) d 4 = 1 := by
    rw [cpB_gB (by decide), if_neg (fun z => hdf z.1), dgB_ne hdf (by decide), h4]
    decide
  rw [oD_gB hf hf hd hw h4 hdf, lvB_gB hw, if_neg e4, if_neg (fun z => hdf z.1.symm), cpB_gB hw]
  by_cases c : w' = 2 ∨ 6 ≤ w'
  · rw [if_pos ⟨rfl, c⟩, if_pos c, dgB_ne hdf hw]
  · rw [if_neg (fun z => c z.2), if_neg c]
end PINVC
