/-! p28, PURE: what a directory holds, in order -/
section PYDIR
variable {p p' p'' P : Nat → Int32} {d d' d'' l l' b n k i j : Nat} {key val : Int32} {B : Int}
/-- two directories that hold the same -/
def DEq (p : Nat → Int32) (d : Nat) (p' : Nat → Int32) (d' : Nat) : Prop := nB p' d' 2 = nB p d 2 ∧ ∀ i, i < nB p d 2 → nB p' (nB p' d' (6 + i)) 2 = nB p (nB p d (6 + i)) 2 ∧ ∀ w, 6 ≤ w → w < 14 → gB p' (nB p' d' (6 + i)) w = gB p (nB p d (6 + i)) w
def KOK (x : Int32) : Prop := 0 ≤ x ∧ x < 100
def VOK (x : Int32) : Prop := -999 ≤ x ∧ x ≤ 999
/-- keys and values are in their ranges, and a leaf's keys are less than those of the leaves behind it -/
def DirS (p : Nat → Int32) (d : Nat) : Prop := (∀ i j, i < nB p d 2 → j < nB p (nB p d (6 + i)) 2 → KOK (gB p (nB p d (6 + i)) (6 + 2 * j)) ∧ VOK (gB p (nB p d (6 + i)) (7 + 2 * j))) ∧ ∀ i i' j j', i < i' → i' < nB p d 2 → j < nB p (nB p d (6 + i)) 2 → j' < nB p (nB p d (6 + i')) 2 → gB p (nB p d (6 + i)) (6 + 2 * j) < gB p (nB p d (6 + i')) (6 + 2 * j')
theorem DEq.rf : DEq p d p d := ⟨rfl, fun _ _ => ⟨rfl, fun _ _ _ => rfl⟩⟩
theorem DEq.tr (h : DEq p d p' d') (h' : DEq p' d' p'' d'') : DEq p d p'' d'' :=
  ⟨h'.1.trans h.1, fun i hi => ⟨((h'.2 i (by rw [h.1]; exact hi)).1).trans (h.2 i hi).1, fun w h1 h2 => ((h'.2 i (by rw [h.1]; exact hi)).2 w h1 h2).trans ((h.2 i hi).2 w h1 h2)⟩⟩
theorem DirOK.le4 (hd : DirOK p d) (hi : i < nB p d 2) : 1 ≤ nB p (nB p d (6 + i)) 2 ∧ nB p (nB p d (6 + i)) 2 ≤ 4 := ⟨(hd.2.2.2.2.2.1 i hi).2.2.2.2.2.1, (hd.2.2.2.2.2.1 i hi).2.2.2.2.2.2.1⟩
theorem DirS.of (h : DEq p d p' d') (hd : DirOK p d) (hs : DirS p d) : DirS p' d' := by
  refine ⟨fun i j hi hj => ?_, fun i i' j j' h1 h2 h3 h4 => ?_⟩
  · rw [h.1] at hi
    obtain ⟨e1, e2⟩ := h.2 i hi
    rw [e1] at hj
    have h4 := (hd.le4 hi).2
    rw [e2 _ (by omega) (by omega), e2 _ (by omega) (by omega)]
    exact hs.1 i j hi hj
  · rw [h.1] at h2
    obtain ⟨e1, e2⟩ := h.2 i (by omega)
    obtain ⟨e3, e4⟩ := h.2 i' h2
    rw [e1] at h3
    rw [e3] at h4
    have h5 := (hd.le4 (i := i) (by omega)).2
    have h6 := (hd.le4 h2).2
    rw [e2 _ (by omega) (by omega), e4 _ (by omega) (by omega)]
    exact hs.2 i i' j j' h1 h2 h3 h4
theorem vby_cg (h : DEq p d p' d') (hd : DirOK p d) : vby p' d' key = vby p d key := by
  have ep : plc p' d' key = plc p d key := by
    unfold plc
    rw [h.1]
    split
    · rfl
    · refine congrArg some (lp_cg _ _ _ (fun j h1 h3 a => ?_))
      unfold pstep
      rw [(h.2 j (by omega)).2 6 (by decide) (by decide)]
  cases e : plc p d key with
  | none => rw [vby_0 e, vby_0 (ep.trans e)]
  | some k =>
    have hk := plc_lt e
    obtain ⟨e1, e2⟩ := h.2 k hk
    have h4 := (hd.le4 hk).2
    have ee : ein p' (nB p' d' (6 + k)) key = ein p (nB p d (6 + k)) key := ein_cg e1 (fun i hi => e2 _ (by omega) (by omega))
    cases e3 : ein p (nB p d (6 + k)) key with
    | none => rw [vby_1 e e3, vby_1 (ep.trans e) (ee.trans e3)]
    | some i =>
      have hi := (ein_lt e3).1
      rw [vby_2 e e3, vby_2 (ep.trans e) (ee.trans e3), e2 _ (by omega) (by omega)]
theorem ens_cg (h : DEq p d p' d') : ens p' d' = ens p d := by
  unfold ens
  rw [h.1]
  exact lp_cg _ _ _ (fun j h1 h2 a => by rw [(h.2 j (by omega)).1])
theorem lp_none : ∀ (n k f : Nat), (∀ i, k ≤ i → i < k + n → ¬ gB p (nB p d (6 + i)) 6 ≤ key) → lp (pstep p d key) n k f = f
  | 0, _, _, _ => rfl
  | n + 1, k, f, h => by
    show lp (pstep p d key) n (k + 1) (pstep p d key k f) = f
    rw [pstep_n (h k (Nat.le_refl _) (by omega))]
    exact lp_none n (k + 1) f (fun i h1 h2 => h i (by omega) (by omega))
theorem lp_at : ∀ (n k0 f k : Nat), k0 ≤ k → k < k0 + n → gB p (nB p d (6 + k)) 6 ≤ key → (∀ i, k < i → i < k0 + n → ¬ gB p (nB p d (6 + i)) 6 ≤ key) → lp (pstep p d key) n k0 f = k
  | 0, _, _, _, h1, h2, _, _ => absurd h2 (by omega)
  | n + 1, k0, f, k, h1, h2, h3, h4 => by
    show lp (pstep p d key) n (k0 + 1) (pstep p d key k0 f) = k
    by_cases c : k = k0
    · subst c
      rw [pstep_y h3]
      exact lp_none n (k + 1) k (fun i g1 g2 => h4 i (by omega) (by omega))
    · exact lp_at n (k0 + 1) _ k (by omega) (by omega) h3 (fun i g1 g2 => h4 i g1 (by omega))
theorem sr_at {P : Nat → Bool} : ∀ (n k j : Nat), k ≤ j → j < k + n → P j = true → (∀ i, k ≤ i → i < j → P i = false) → sr P n k = some j
  | 0, _, _, h1, h2, _, _ => absurd h2 (by omega)
  | n + 1, k, j, h1, h2, h3, h4 => by
    show (if P k then some k else sr P n (k + 1)) = some j
    by_cases c : k = j
    · subst c
      rw [if_pos h3]
    · rw [if_neg (by rw [h4 k (Nat.le_refl _) (by omega)]; decide)]
      exact sr_at n (k + 1) j (by omega) (by omega) h3 (fun i g1 g2 => h4 i (by omega) g2)
theorem LeafOK.first (hl : LeafOK p l) (hj : j < nB p l 2) : gB p l 6 ≤ gB p l (6 + 2 * j) := by
  by_cases c : j = 0
  · subst c
    exact Int32.le_refl _
  · exact Int32.le_of_lt (hl.2.2.2.2.2.2 0 j (by omega) hj)
theorem lt_nle {a b : Int32} (h : a < b) : ¬ b ≤ a := Int32.not_le.mpr h
/-- a key that stands in a directory is found where it stands -/
theorem dfind (hd : DirOK p d) (hs : DirS p d) (hk : k < nB p d 2) (hj : j < nB p (nB p d (6 + k)) 2) (e : gB p (nB p d (6 + k)) (6 + 2 * j) = key) : plc p d key = some k ∧ ein p (nB p d (6 + k)) key = some j := by
  have hl := (hd.2.2.2.2.2.1 k hk).2
  constructor
  · unfold plc
    rw [if_neg (by omega)]
    refine congrArg some (lp_at _ 0 0 k (by omega) (by omega) (by rw [← e]; exact hl.first hj) (fun i h1 h2 => ?_))
    have h3 : i < nB p d 2 := by omega
    have q := hs.2 k i j 0 h1 h3 hj (hd.le4 h3).1
    rw [e] at q
    exact lt_nle q
  · refine sr_at _ 0 j (by omega) (by omega) (decide_eq_true e) (fun i h1 h2 => decide_eq_false (fun z => ?_))
    have q := hl.2.2.2.2.2.2 i j h2 hj
    rw [z, e] at q
    exact absurd q Int32.lt_irrefl
theorem vby_find (hd : DirOK p d) (hs : DirS p d) (hk : k < nB p d 2) (hj : j < nB p (nB p d (6 + k)) 2) (e : gB p (nB p d (6 + k)) (6 + 2 * j) = key) : vby p d key = gB p (nB p d (6 + k)) (7 + 2 * j) := by
  obtain ⟨a, b⟩ := dfind hd hs hk hj e
  exact vby_2 a b
theorem vby_none (h : ∀ i j, i < nB p d 2 → j < nB p (nB p d (6 + i)) 2 → gB p (nB p d (6 + i)) (6 + 2 * j) ≠ key) : vby p d key = -1000 := by
  cases e : plc p d key with
  | none => exact vby_0 e
  | some k =>
    cases e2 : ein p (nB p d (6 + k)) key with
    | none => exact vby_1 e e2
    | some i =>
      obtain ⟨h1, h2⟩ := ein_lt e2
      exact absurd h2 (h k i (plc_lt e) h1)
theorem VOK.ne (h : VOK val) : val ≠ -1000 ∧ val ≠ -2902 ∧ val ≠ -2901 := by
  refine ⟨fun z => ?_, fun z => ?_, fun z => ?_⟩ <;> (rw [z] at h; exact absurd h.1 (by decide))
theorem vby_iff (hs : DirS p d) (h : vby p d key ≠ -1000) : ∃ k i, plc p d key = some k ∧ k < nB p d 2 ∧ ein p (nB p d (6 + k)) key = some i ∧ i < nB p (nB p d (6 + k)) 2 ∧ vby p d key = gB p (nB p d (6 + k)) (7 + 2 * i) := by
  cases e : plc p d key with
  | none => exact absurd (vby_0 e) h
  | some k =>
    cases e2 : ein p (nB p d (6 + k)) key with
    | none => exact absurd (vby_1 e e2) h
    | some i => exact ⟨k, i, rfl, plc_lt e, e2, (ein_lt e2).1, vby_2 e e2⟩
theorem vby_ok (hs : DirS p d) : vby p d key = -1000 ∨ VOK (vby p d key) := by
  by_cases h : vby p d key = -1000
  · exact Or.inl h
  · obtain ⟨k, i, h1, h2, h3, h4, h5⟩ := vby_iff hs h
    rw [h5]
    exact Or.inr (hs.1 k i h2 h4).2
/-- where a key's leaf is: the keys of the leaves ahead are less, those of the leaves behind are more -/
theorem plc_spec (hd : DirOK p d) (hs : DirS p d) (e : plc p d key = some k) : (∀ i j, i < k → j < nB p (nB p d (6 + i)) 2 → gB p (nB p d (6 + i)) (6 + 2 * j) < key) ∧ ∀ i j, k < i → i < nB p d 2 → j < nB p (nB p d (6 + i)) 2 → key < gB p (nB p d (6 + i)) (6 + 2 * j) := by
  have hk := plc_lt e
  have hlp := lp_inv (s := pstep p d key) (fun m f => (f = 0 ∨ gB p (nB p d (6 + f)) 6 ≤ key) ∧ ∀ i, f < i → i < m → ¬ gB p (nB p d (6 + i)) 6 ≤ key) (nB p d 2) 0 0 ⟨Or.inl rfl, fun i h1 h2 => absurd h2 (by omega)⟩ (fun m h1 h2 f hf => by
    by_cases c : gB p (nB p d (6 + m)) 6 ≤ key
    · rw [pstep_y c]
      exact ⟨Or.inr c, fun i g1 g2 => absurd g2 (by omega)⟩
    · rw [pstep_n c]
      refine ⟨hf.1, fun i g1 g2 => ?_⟩
      by_cases c2 : i = m
      · subst c2
        exact c
      · exact hf.2 i g1 (by omega))
  unfold plc at e
  rw [if_neg (by omega)] at e
  rw [Option.some.inj e] at hlp
  obtain ⟨a, b⟩ := hlp
  refine ⟨fun i j h1 h2 => ?_, fun i j h1 h2 h3 => ?_⟩
  · have a1 := a.resolve_left (by omega)
    exact Int32.lt_of_lt_of_le (hs.2 i k j 0 h1 hk h2 (hd.le4 hk).1) a1
  · have b1 := Int32.not_le.mp (b i h1 (by omega))
    exact Int32.lt_of_lt_of_le b1 ((hd.2.2.2.2.2.1 i h2).2.first h3)
end PYDIR
