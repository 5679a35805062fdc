/-! p28, PURE: what holds beside the invariant, and what a change of the draft keeps -/
section PYINV
variable {p p' p'' P : Nat → Int32} {d d' l b n k i j r f : Nat} {key val : Int32} {B : Int}
def WX1 (p : Nat → Int32) : Prop := ∀ b, b < 32 → gB p b 0 ≠ 0 → (gB p b 1 = 0 ∧ ∃ n, 1 ≤ n ∧ n ≤ 4 ∧ gB p b 2 = nI n) ∨ (gB p b 1 = 1 ∧ ∃ n, n ≤ 6 ∧ gB p b 2 = nI n)
def WX2 (p : Nat → Int32) : Prop := ∀ b, b < 32 → gB p b 0 = 2 → 0 ≤ gB p b 3
def WX4 (p : Nat → Int32) : Prop := gR p (1 - cur p) 2 = 1 → gR p (1 - cur p) 0 < gR p (cur p) 0 ∧ ∃ z, z < 32 ∧ gR p (1 - cur p) 1 = nI z ∧ gB p z 1 = 1 ∧ ((gB p z 0 = 1 ∧ gB p z 4 = 0) ∨ (gB p z 0 = 2 ∧ gR p (1 - cur p) 0 < gB p z 3))
def WX5 (p : Nat → Int32) : Prop := ∀ r, r < 4 → gD p r 0 = 1 → gD p r 1 = gR p (cur p) 0 → rdp p r = cd p
def WX6 (p : Nat → Int32) : Prop := ¬ p 467 < 0 → gB p (cd p) 5 = 1
def WX (p : Nat → Int32) : Prop := WX1 p ∧ WX2 p ∧ DirS p (cd p) ∧ (∀ r, r < 4 → gD p r 0 = 1 → DirS p (rdp p r)) ∧ DirS p (drd p) ∧ WX4 p ∧ WX5 p ∧ WX6 p
/-- a bed that no change of the draft touches, but that it may be left -/
def KP (p : Nat → Int32) (b : Nat) : Prop := (gB p b 0 = 1 ∧ gB p b 4 = 0) ∨ (gB p b 0 = 2 ∧ dg p b = false)
def KeepD (p p' : Nat → Int32) : Prop := (∀ i, 448 ≤ i → i ≠ 467 → p' i = p i) ∧ ∀ b, b < 32 → KP p b → ∀ w, w < 14 → w ≠ 5 → gB p' b w = gB p b w
theorem KP.ne (hi : INV B p) (hn : nxt p = some f) (h : KP p b) : b ≠ f := by
  intro z
  subst z
  rcases h with c | c
  · exact (nxt_free hi hn).1 c.1
  · rcases nxt_ok hn with e | e
    · rw [c.2] at e
      cases e
    · have e2 : gB p b 0 = 0 := of_decide_eq_true e
      rw [c.1] at e2
      exact absurd e2 (by decide)
theorem KeepD.rf : KeepD p p := ⟨fun _ _ _ => rfl, fun _ _ _ _ _ _ => rfl⟩
theorem KeepD.R (h : KeepD p p') {v : Nat} (hr : r < 2) (hv : v < 3) : gR p' r v = gR p r v := h.1 _ (by omega) (by omega)
theorem KeepD.D (h : KeepD p p') {v : Nat} (hr : r < 4) (hv : v < 3) : gD p' r v = gD p r v := h.1 _ (by omega) (by omega)
theorem KeepD.cur (h : KeepD p p') : cur p' = cur p := cur_cg (fun _ _ hr hv => h.R hr hv)
theorem KeepD.need (h : KeepD p p') {w : Int32} : need p' w = need p w := need_cg (fun _ _ hr hv => h.R hr hv) (fun _ _ hr hv => h.D hr hv) w
theorem KeepD.cde (h : KeepD p p') : cd p' = cd p := by
  refine cd_of ?_
  unfold nowp
  rw [h.cur, h.R cur_lt (by decide)]
theorem KeepD.rdpe (h : KeepD p p') (hr : r < 4) : rdp p' r = rdp p r := rdp_of (h.D hr (by decide))
theorem KeepD.kpk (h : KeepD p p') (hb : b < 32) (hk : KP p b) : KP p' b := by
  have e := h.2 b hb hk
  unfold KP
  rw [e 0 (by decide) (by decide), e 4 (by decide) (by decide)]
  rcases hk with c | c
  · exact Or.inl c
  · refine Or.inr ⟨c.1, ?_⟩
    have c2 := c.2
    unfold dg at c2 ⊢
    rw [e 0 (by decide) (by decide), e 3 (by decide) (by decide), h.need]
    exact c2
theorem KeepD.tr (h : KeepD p p') (h' : KeepD p' p'') : KeepD p p'' := ⟨fun i h1 h2 => (h'.1 i h1 h2).trans (h.1 i h1 h2), fun b hb hk w hw h5 => (h'.2 b hb (h.kpk hb hk) w hw h5).trans (h.2 b hb hk w hw h5)⟩
theorem KeepD.deq (h : KeepD p p') (hd : DirOK p d) (hP : Pg p d (KP p)) : DEq p d p' d := by
  have e := h.2 d hd.1 hP.1
  refine ⟨nB_of (e 2 (by decide) (by decide)), fun i hi => ?_⟩
  have h6 := hd.2.2.2.2.1
  have el : nB p' d (6 + i) = nB p d (6 + i) := nB_of (e (6 + i) (by omega) (by omega))
  rw [el]
  have e2 := h.2 _ (hd.2.2.2.2.2.1 i hi).2.1 (hP.2 i hi)
  exact ⟨nB_of (e2 2 (by decide) (by decide)), fun w h1 h2 => e2 w h2 (by omega)⟩
theorem INV.cdKP (hi : INV B p) : Pg p (cd p) (KP p) := ⟨Or.inl hi.2.2.1.2.2.1, fun i h => Or.inl (hi.2.2.1.2.2.2 i h)⟩
theorem KP_of {x : Int32} (hx : need p (-1) ≤ x) (h : (gB p b 0 = 1 ∧ gB p b 4 = 0) ∨ (gB p b 0 = 2 ∧ x < gB p b 3)) : KP p b := by
  rcases h with c | c
  · exact Or.inl c
  · refine Or.inr ⟨c.1, ?_⟩
    unfold dg
    rw [decide_eq_false (p := gB p b 3 ≤ need p (-1)) (fun z => absurd (Int32.le_trans z hx) (Int32.not_le.mpr c.2)), Bool.and_false]
theorem INV.rdKP (hi : INV B p) (hr : r < 4) (ho : gD p r 0 = 1) : Pg p (rdp p r) (KP p) := by
  obtain ⟨r1, r2, r3, r4⟩ := hi.2.2.2.1 r hr ho
  exact ⟨KP_of (need_le hr ho) r3.1, fun i h => KP_of (need_le hr ho) (r3.2 i h)⟩
theorem dmin_le {w m : Int32} : dmin p w r m ≤ m := by
  unfold dmin
  split
  · rename_i h
    exact Int32.le_of_lt h.2.2
  · exact Int32.le_refl _
theorem rmin_le {m : Int32} : rmin p r m ≤ m := by
  unfold rmin
  split
  · rename_i h
    exact Int32.le_of_lt h.2
  · exact Int32.le_refl _
theorem dlp_le {w : Int32} : ∀ (n k : Nat) (m : Int32), lp (dmin p w) n k m ≤ m
  | 0, _, m => Int32.le_refl m
  | n + 1, k, m => Int32.le_trans (dlp_le n (k + 1) _) dmin_le
/-- the needed count is not greater than that of a whole root -/
theorem need_leR {w : Int32} (hr : r < 2) (h2 : gR p r 2 = 1) : need p w ≤ gR p r 0 := by
  unfold need
  refine Int32.le_trans (dlp_le _ _ _) ?_
  show rmin p 1 (rmin p 0 (gR p (cur p) 0)) ≤ gR p r 0
  have hle : ∀ m : Int32, rmin p r m ≤ gR p r 0 := fun m => by
    by_cases c : gR p r 0 < m
    · rw [rmin_y h2 c]
      exact Int32.le_refl _
    · rw [rmin_2 c]
      exact Int32.not_lt.mp c
  have hc : r = 0 ∨ r = 1 := by omega
  rcases hc with rfl | rfl
  · exact Int32.le_trans rmin_le (hle _)
  · exact hle _
theorem WX4.kpk (h : WX4 p) (h2 : gR p (1 - cur p) 2 = 1) : ∃ z, z < 32 ∧ gR p (1 - cur p) 1 = nI z ∧ gB p z 1 = 1 ∧ KP p z := by
  obtain ⟨h3, z, z1, z2, z3, z4⟩ := h h2
  exact ⟨z, z1, z2, z3, KP_of (need_leR (by omega) h2) z4⟩
theorem WX_gen (hi : INV B p) (hw : WX p) (hk : KeepD p p') (h1 : WX1 p') (h2 : ∀ b, b < 32 → gB p' b 0 = 2 → gB p b 0 = 2 ∧ gB p' b 3 = gB p b 3) (hd : DirS p' (drd p')) (h5 : ¬ p' 467 < 0 → gB p' (cd p) 5 = 1) : WX p' := by
  obtain ⟨w1, w2, w3, w3r, w3d, w4, w5, w6⟩ := hw
  refine ⟨h1, fun b hb h => ?_, ?_, fun r hr ho => ?_, hd, fun h => ?_, fun r hr ho he => ?_, fun h => ?_⟩
  · obtain ⟨g1, g2⟩ := h2 b hb h
    rw [g2]
    exact w2 b hb g1
  · rw [hk.cde]
    exact w3.of (hk.deq hi.2.2.1.2.1 hi.cdKP) hi.2.2.1.2.1
  · rw [hk.D hr (by decide)] at ho
    rw [hk.rdpe hr]
    exact (w3r r hr ho).of (hk.deq (hi.2.2.2.1 r hr ho).2.1 (hi.rdKP hr ho)) (hi.2.2.2.1 r hr ho).2.1
  · rw [hk.cur, hk.R (by omega) (by decide)] at h
    have hc := cur_lt (p := p)
    rw [hk.cur, hk.R (by omega) (by decide), hk.R hc (by decide), hk.R (by omega) (by decide)]
    obtain ⟨g1, z, z1, z2, z3, z4⟩ := w4 h
    have hkz := KP_of (need_leR (by omega) h) z4
    have e := hk.2 z z1 hkz
    refine ⟨g1, z, z1, z2, by rw [e 1 (by decide) (by decide)]; exact z3, ?_⟩
    rw [e 0 (by decide) (by decide), e 4 (by decide) (by decide), e 3 (by decide) (by decide)]
    exact z4
  · have hc := cur_lt (p := p)
    rw [hk.D hr (by decide)] at ho
    rw [hk.D hr (by decide), hk.cur, hk.R hc (by decide)] at he
    rw [hk.rdpe hr, hk.cde]
    exact w5 r hr ho he
  · rw [hk.cde]
    exact h5 h
/-- the readers and the current root see the same as before -/
theorem KeepD.vcd (h : KeepD p p') (hi : INV B p) : vby p' (cd p') key = vby p (cd p) key := by
  rw [h.cde]
  exact vby_cg (h.deq hi.2.2.1.2.1 hi.cdKP) hi.2.2.1.2.1
theorem KeepD.vrd (h : KeepD p p') (hi : INV B p) (hr : r < 4) (ho : gD p r 0 = 1) : vby p' (rdp p' r) key = vby p (rdp p r) key := by
  rw [h.rdpe hr]
  exact vby_cg (h.deq (hi.2.2.2.1 r hr ho).2.1 (hi.rdKP hr ho)) (hi.2.2.2.1 r hr ho).2.1
end PYINV
