/-! p28, PURE: the law's look at the roots and readers -/
section PZROOT
variable {q : Nat} {μ μ0 μ' : Mem} {p p' p'' P Q : Nat → Int32} {d d' l b n k i j r f s m a w c fu z : Nat} {key val x1 x2 x3 x4 x m1 m2 : Int32} {B : Int}
theorem KP.b0 (h : KP p b) : gB p b 0 ≠ 0 := by
  rcases h with c | c <;> rw [c.1] <;> decide
theorem KP.bdg (h : KP p b) : dg p b = false := by
  rcases h with c | c
  · exact dg_2 (by rw [c.1]; decide)
  · exact c.2
theorem root_page (h : J28 B μ p) (hr : r < 2) (h2 : gR p r 2 = 1) : ∃ z, z < 32 ∧ gR p r 1 = nI z ∧ gB p z 1 = 1 ∧ KP p z := by
  have hc := cur_lt (p := p)
  by_cases c : r = cur p
  · rw [c]
    exact ⟨cd p, h.2.1.2.2.1.2.1.1, h.2.1.2.2.1.1, h.2.1.2.2.1.2.1.2.2.1, h.2.1.cdKP.1⟩
  · have e : r = 1 - cur p := by omega
    rw [e] at h2 ⊢
    exact WX4.kpk h.2.2.1.2.2.2.2.2.1 h2
theorem rt1_n (h : J28 B μ p) (hr : r < 2) (hz : z < 32) (e : gR p r 1 = nI z) : f_X6_root 0 (nI r) 1 μ = some (nI z) := by
  rw [rt1 h hr, e, if_neg (nI_nz (by omega))]
theorem b22_step (h : J28 B μ p) (hr : r < 2) : f_L_roots_b22 0 (fu + 1) x1 x2 x3 x4 (nI r) μ = f_L_roots_b22 0 fu x1 x2 (rmin p r x3) x4 (nI (r + 1)) μ := by
  rw [f_L_roots_b22, if_neg (nlI (c := 2) 2 r rfl hr (by omega)), rt2 h hr, Option.bind_some]
  have fin : ∀ m : Int32, f_L_roots_b61 0 (f_L_roots_b22 0 fu) x1 x2 x4 (nI r) m μ = f_L_roots_b22 0 fu x1 x2 m x4 (nI (r + 1)) μ := fun m => by
    unfold f_L_roots_b61 f_L_roots_b122
    rw [rt2 h hr, Option.bind_some, nI_1]
    by_cases c : gR p r 2 = 1
    · obtain ⟨z, z1, z2, z3, z4⟩ := root_page h hr c
      rw [if_pos c, rt1_n h hr z1 z2, Option.bind_some, bed0 h z1, Option.bind_some, if_neg z4.b0, Option.bind_some, bed4 h z1, Option.bind_some, z4.bdg, if_neg (by decide), Option.bind_some, bed1 h z1, Option.bind_some, if_neg z4.b0, if_pos z3]
    · rw [if_neg c]
  by_cases c : gR p r 2 = 1
  · rw [if_pos c, rt0 h hr, Option.bind_some, rmin_w c]
    by_cases c2 : x3 ≤ gR p r 0
    · rw [if_pos c2, if_neg (Int32.not_lt.mpr c2)]
      exact fin x3
    · rw [if_neg c2, if_pos (Int32.not_le.mp c2), Option.bind_some]
      exact fin _
  · rw [if_neg c, rmin_n c]
    exact fin x3
theorem dmin_mono (hr : nI r ≠ -1) (hm : m1 ≤ m2) {w : Int32} : dmin p (-1) r m1 ≤ dmin p w r m2 := by
  unfold dmin
  by_cases c1 : nI r ≠ -1 ∧ gD p r 0 = 1 ∧ gD p r 1 < m1
  · rw [if_pos c1]
    split
    · exact Int32.le_refl _
    · exact Int32.le_trans (Int32.le_of_lt c1.2.2) hm
  · rw [if_neg c1]
    split
    · rename_i c2
      exact Int32.not_lt.mp (fun z => c1 ⟨hr, c2.2.1, z⟩)
    · exact hm
theorem need_mono {w : Int32} : need p (-1) ≤ need p w := by
  unfold need
  exact lp_rel (fun x y : Int32 => x ≤ y) 4 0 _ _ (Int32.le_refl _) (fun j h1 h2 a b hab => dmin_mono (fun z => nI_nz (k := j) (by omega) (by rw [z]; decide)) hab)
theorem b131_step (h : J28 B μ p) (hr : r < 4) : f_L_roots_b131 0 (fu + 1) x1 (gR p (cur p) 0) x3 x4 (nI r) μ = f_L_roots_b131 0 fu x1 (gR p (cur p) 0) (dmin p (-1) r x3) (x4 + gD p r 0) (nI (r + 1)) μ := by
  have hm1 : ¬ nI r = -1 := fun z => nI_nz (k := r) (by omega) (by rw [z]; decide)
  rw [f_L_roots_b131, if_neg (nlI (c := 4) 4 r rfl hr (by omega)), rd0 h hr, Option.bind_some]
  by_cases ho : gD p r 0 = 1
  · obtain ⟨q1, q2, q3, q4⟩ := h.2.1.2.2.2.1 r hr ho
    have hz := q2.1
    have hkp := (h.2.1.rdKP hr ho).1
    have e1 : f_X6_reader 0 (nI r) 1 μ = some (nI (rdp p r)) := by rw [rd1 h hr, if_pos ho, q1]
    have e0 : f_X6_reader 0 (nI r) 0 μ = some (gD p r 1) := by rw [rd0 h hr, if_pos ho]
    have fin : ∀ m : Int32, f_L_roots_b199 0 (f_L_roots_b131 0 fu) x1 (gR p (cur p) 0) (x4 + 1) (nI r) 1 m μ = f_L_roots_b131 0 fu x1 (gR p (cur p) 0) m (x4 + 1) (nI (r + 1)) μ := fun m => by
      have e267 : f_L_roots_b267 0 (f_L_roots_b131 0 fu) x1 (gR p (cur p) 0) m (x4 + 1) (nI r) 1 μ = f_L_roots_b131 0 fu x1 (gR p (cur p) 0) m (x4 + 1) (nI (r + 1)) μ := by
        unfold f_L_roots_b267 f_L_roots_b281 f_L_roots_b326
        rw [without_e h hr ho, Option.bind_some, wh4 h, Option.bind_some, if_neg (Int32.not_lt.mpr need_mono), if_neg (by decide), nI_1]
      unfold f_L_roots_b199
      rw [if_neg (by decide), e0, Option.bind_some, if_neg (Int32.not_lt.mpr q4), e1, Option.bind_some, bed0 h hz, Option.bind_some, if_neg hkp.b0, Option.bind_some, bed4 h hz, Option.bind_some, hkp.bdg, if_neg (by decide), Option.bind_some]
      by_cases ce : gD p r 1 = gR p (cur p) 0
      · rw [if_pos ce, changed_e h hr ho, chg_0 (fun j _ => by rw [h.2.2.1.2.2.2.2.2.2.1 r hr ho ce]), Option.bind_some, if_pos rfl]
        exact e267
      · rw [if_neg ce]
        exact e267
    rw [if_pos ho, if_neg (not_none ((h.2.1.1.2.2 r hr).2 ho)), ho]
    unfold f_L_roots_b155 f_L_roots_b169 f_L_roots_b198
    rw [if_neg (by decide), if_neg (by decide), e0, Option.bind_some]
    by_cases c2 : x3 ≤ gD p r 1
    · rw [if_pos c2, dmin_3 (Int32.not_lt.mpr c2)]
      exact fin x3
    · rw [if_neg c2, dmin_y hm1 ho (Int32.not_le.mp c2), Option.bind_some]
      exact fin _
  · have h0 : gD p r 0 = 0 := ((h.2.1.1.2.2 r hr).1).resolve_right ho
    have elr : f_L_read 0 (nI r) 0 μ = some (-2902) := by
      have e := Lread (k := 0) h hr (by decide)
      unfold rdv at e
      rw [if_neg ho] at e
      exact e
    rw [if_neg ho, if_pos rfl, dmin_2 ho, h0]
    unfold f_L_roots_b155 f_L_roots_b169 f_L_roots_b198 f_L_roots_b199 f_L_roots_b281 f_L_roots_b326
    rw [if_pos rfl, if_pos rfl, if_pos rfl, if_pos rfl, Lsince_0 h hr ho, Option.bind_some, if_pos rfl, elr, Option.bind_some, if_pos rfl, rd2 h hr, Option.bind_some, if_neg ho, if_pos rfl, nI_1]
theorem other_n : (1 : Int32) - nI (cur p) = nI (1 - cur p) := by
  have hc := cur_lt (p := p)
  have hcase : cur p = 0 ∨ cur p = 1 := by omega
  rcases hcase with e | e <;> rw [e] <;> rfl
theorem b385_ok (h : J28 B μ p) : f_L_roots_b385 0 (nI (cur p)) (need p (-1)) (lp (fun j (x : Int32) => x + gD p j 0) 4 0 0) μ = some 1 := by
  have hc := cur_lt (p := p)
  have hcd := h.2.1.2.2.1
  unfold f_L_roots_b385
  rw [wh4 h, Option.bind_some, if_pos rfl, wh7 h, Option.bind_some, if_pos rfl, rt1_n h hc hcd.2.1.1 hcd.1, Option.bind_some, bed0 h hcd.2.1.1, Option.bind_some, if_pos hcd.2.2.1.1, Option.bind_some, bed2 h hcd.2.1.1, Option.bind_some, wh6 h, Option.bind_some, if_neg hcd.2.1.2.1, if_pos rfl]
  rfl
theorem b131_end (h : J28 B μ p) : f_L_roots_b131 0 (fu + 1) (nI (cur p)) (gR p (cur p) 0) (need p (-1)) (lp (fun j (x : Int32) => x + gD p j 0) 4 0 0) (nI 4) μ = some 1 := by
  have hc := cur_lt (p := p)
  have e0 := rt3 (r := 0) h (by decide)
  have e1 := rt3 (r := 1) h (by decide)
  have es : (if 0 = cur p then (1 : Int32) else 0) + (if 1 = cur p then 1 else 0) = 1 := by
    have hcase : cur p = 0 ∨ cur p = 1 := by omega
    rcases hcase with e | e <;> rw [e] <;> rfl
  rw [f_L_roots_b131, if_pos (lI (c := 4) 4 4 rfl (by omega) (by omega)), show f_X6_root 0 0 3 μ = _ from e0, Option.bind_some, show f_X6_root 0 1 3 μ = _ from e1, Option.bind_some, if_pos es, rt2 h hc, Option.bind_some, if_pos h.2.1.1.2.1, other_n, rt2 h (by omega), Option.bind_some]
  by_cases c : gR p (1 - cur p) 2 = 0
  · rw [if_pos c]
    exact b385_ok h
  · have c1 := ((h.2.1.1.1 (1 - cur p) (by omega)).1).resolve_left c
    rw [if_neg c, rt0 h (by omega), Option.bind_some, if_neg (Int32.not_le.mpr (h.2.2.1.2.2.2.2.2.1 c1).1)]
    exact b385_ok h
theorem roots_ok (h : J28 B μ p) : f_L_roots 0 μ = some 1 := by
  have hc := cur_lt (p := p)
  unfold f_L_roots
  rw [now_e h, Option.bind_some, rt0 h hc, Option.bind_some]
  have e1 : f_L_roots_b22 0 3 (nI (cur p)) (gR p (cur p) 0) (gR p (cur p) 0) 0 (nI 0) μ = f_L_roots_b131 0 5 (nI (cur p)) (gR p (cur p) 0) (rmin p 1 (rmin p 0 (gR p (cur p) 0))) 0 (nI 0) μ := by
    rw [b22_step h (by decide), b22_step h (by decide), f_L_roots_b22, if_pos (lI (c := 2) 2 2 rfl (by omega) (by omega))]
    rfl
  rw [nI_0] at e1
  rw [e1, ← nI_0, b131_step h (by decide), b131_step h (by decide), b131_step h (by decide), b131_step h (by decide)]
  exact b131_end (fu := 0) h
end PZROOT
