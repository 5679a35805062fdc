/-! PURE, the class's reads of beds and roots, over its rows -/
section PCLSR
variable {q : Nat} {μ : Mem}
theorem cell_n {q0 n0 k : Nat} (h : k < n0) (hn : n0 < 2 ^ 31) : f_X6_cell q0 n0 (nI k) μ = some (μ q0 k) := by
  unfold f_X6_cell f_X6_cell_b19
  rw [if_neg (nI_nz (by omega)), if_neg (nI_ge h hn), rd_n h hn]
  rfl
theorem cell_neg {q0 n0 : Nat} {x : Int32} (h : x < 0) : f_X6_cell q0 n0 x μ = some (-1000) := by
  unfold f_X6_cell
  rw [if_pos h]
  rfl
theorem setCell_n {q0 n0 k : Nat} {x : Int32} (h : k < n0) (hn : n0 < 2 ^ 31) : f_X6_setCell q0 n0 (nI k) x μ = some (mst μ q0 k x) := by
  unfold f_X6_setCell f_X6_setCell_b14
  rw [if_neg (nI_nz (by omega)), if_neg (nI_ge h hn), wr_n h hn]
  rfl
theorem sizeOf_n {b : Nat} (hb : b < 32) : f_X1_sizeOf q (nI b) μ = some (μ (q + 3) b) := by
  unfold f_X1_sizeOf f_X1_sizeOf_b25
  rw [if_neg (nI_nz (by omega)), if_neg (nlI (c := 32) 32 b rfl hb (by omega)), rd_n hb (by omega)]
  rfl
theorem sizeOf_neg {x : Int32} (h : x < 0) : f_X1_sizeOf q x μ = some (-1000) := by
  unfold f_X1_sizeOf
  rw [if_pos h]
  rfl
theorem one_c {c : Bool} : f_X6_one (if c then 1 else 0) = some (if c then 1 else 0) := by
  cases c <;> rfl
theorem isFresh_n {b : Nat} (hb : b < 32) : f_X1_isFresh q (nI b) μ = some (if μ (q + 5) b = 1 then 1 else 0) := by
  unfold f_X1_isFresh f_X1_isFresh_b28 f_X1_isFresh_b27
  rw [if_neg (nI_nz (by omega)), if_neg (nlI (c := 32) 32 b rfl hb (by omega)), rd_n hb (by omega)]
  simp only [Option.bind_some]
  by_cases c : μ (q + 5) b = 1
  · rw [if_pos c, if_pos c]
    rfl
  · rw [if_neg c, if_neg c]
    rfl
theorem canBeDugC_n {b : Nat} {w : Int32} (hb : b < 32) : f_X1_canBeDug q (nI b) w μ = some (if decide (μ (q + 1) b = 2) && decide (μ (q + 4) b ≤ w) then 1 else 0) := by
  unfold f_X1_canBeDug f_X1_canBeDug_b34 f_X1_canBeDug_b35
  rw [if_neg (nI_nz (by omega)), if_neg (nlI (c := 32) 32 b rfl hb (by omega)), rd_n hb (by omega), rd_n hb (by omega)]
  simp only [Option.bind_some]
  by_cases c1 : μ (q + 1) b = 2
  · by_cases c2 : w < μ (q + 4) b
    · rw [if_pos c1, if_pos c2, decide_eq_false (fun h => Int32.not_le.mpr c2 h), Bool.and_false]
      rfl
    · rw [if_pos c1, if_neg c2, decide_eq_true c1, decide_eq_true (Int32.not_lt.mp c2)]
      rfl
  · rw [if_neg c1, decide_eq_false c1]
    rfl
theorem leafAt_n {d i : Nat} (hd : d < 32) (hi : i < 6) : f_X1_leafAt q (nI d) (nI i) μ = some (μ (q + 9) (6 * d + i)) := by
  unfold f_X1_leafAt f_X1_leafAt_b42
  have e : nI d * 6 + nI i = nI (6 * d + i) := by rw [show (6 : Int32) = nI 6 from rfl, nI_mul, nI_add, Nat.mul_comm]
  rw [e, if_neg (nI_nz (by omega)), if_neg (nlI (c := 6) 6 i rfl hi (by omega)), if_neg (nI_nz (by omega)), if_neg (nlI (c := 192) 192 (6 * d + i) rfl (by omega) (by omega)), rd_n (by omega) (by omega)]
  rfl
theorem leafAt_neg {x y : Int32} (h : y < 0) : f_X1_leafAt q x y μ = some (-1000) := by
  unfold f_X1_leafAt
  rw [if_pos h]
  rfl
theorem setLeaf_n {d i : Nat} {x : Int32} (hd : d < 32) (hi : i < 6) : f_X1_setLeaf q (nI d) (nI i) x μ = some (mst μ (q + 9) (6 * d + i) x) := by
  unfold f_X1_setLeaf f_X1_setLeaf_b41
  have e : nI d * 6 + nI i = nI (6 * d + i) := by rw [show (6 : Int32) = nI 6 from rfl, nI_mul, nI_add, Nat.mul_comm]
  rw [e, if_neg (nI_nz (by omega)), if_neg (nlI (c := 6) 6 i rfl hi (by omega)), if_neg (nI_nz (by omega)), if_neg (nlI (c := 192) 192 (6 * d + i) rfl (by omega) (by omega)), wr_n (by omega) (by omega)]
  rfl
theorem keyAt_n {d i : Nat} (hd : d < 32) (hi : i < 5) : f_X1_keyAt q (nI d) (nI i) μ = some (μ (q + 7) (5 * d + i)) := by
  unfold f_X1_keyAt f_X1_keyAt_b40
  have e : nI d * 5 + nI i = nI (5 * d + i) := by rw [show (5 : Int32) = nI 5 from rfl, nI_mul, nI_add, Nat.mul_comm]
  rw [e, if_neg (nI_nz (by omega)), if_neg (nlI (c := 5) 5 i rfl hi (by omega)), if_neg (nI_nz (by omega)), if_neg (nlI (c := 160) 160 (5 * d + i) rfl (by omega) (by omega)), rd_n (by omega) (by omega)]
  rfl
theorem valueAt_n {d i : Nat} (hd : d < 32) (hi : i < 5) : f_X1_valueAt q (nI d) (nI i) μ = some (μ (q + 8) (5 * d + i)) := by
  unfold f_X1_valueAt f_X1_valueAt_b40
  have e : nI d * 5 + nI i = nI (5 * d + i) := by rw [show (5 : Int32) = nI 5 from rfl, nI_mul, nI_add, Nat.mul_comm]
  rw [e, if_neg (nI_nz (by omega)), if_neg (nlI (c := 5) 5 i rfl hi (by omega)), if_neg (nI_nz (by omega)), if_neg (nlI (c := 160) 160 (5 * d + i) rfl (by omega) (by omega)), rd_n (by omega) (by omega)]
  rfl
theorem valueAt_neg {x y : Int32} (h : y < 0) : f_X1_valueAt q x y μ = some (-1000) := by
  unfold f_X1_valueAt
  rw [if_pos h]
  rfl
theorem setEntryC_n {d i : Nat} {x y : Int32} (hd : d < 32) (hi : i < 5) : f_X1_setEntry q (nI d) (nI i) x y μ = some (mst (mst μ (q + 7) (5 * d + i) x) (q + 8) (5 * d + i) y) := by
  unfold f_X1_setEntry f_X1_setEntry_b42
  have e : nI d * 5 + nI i = nI (5 * d + i) := by rw [show (5 : Int32) = nI 5 from rfl, nI_mul, nI_add, Nat.mul_comm]
  rw [e, if_neg (nI_nz (by omega)), if_neg (nlI (c := 32) 32 d rfl hd (by omega)), if_neg (nI_nz (by omega)), if_neg (nlI (c := 5) 5 i rfl hi (by omega)), wr_n (by omega) (by omega)]
  simp only [Option.bind_some]
  rw [wr_n (by omega) (by omega)]
  rfl
theorem moveEntry_n {d i d' i' : Nat} (hd : d < 32) (hi : i < 5) (hd' : d' < 32) (hi' : i' < 5) : f_X1_moveEntry q (nI d) (nI i) (nI d') (nI i') μ = some (mst (mst μ (q + 7) (5 * d' + i') (μ (q + 7) (5 * d + i))) (q + 8) (5 * d' + i') (μ (q + 8) (5 * d + i))) := by
  unfold f_X1_moveEntry
  rw [keyAt_n hd hi, valueAt_n hd hi]
  simp only [Option.bind_some]
  rw [setEntryC_n hd' hi']
  rfl
/-- the relation of the class's beds (from q on) to a page -/
def RB (q : Nat) (μ : Mem) (p : Nat → Int32) : Prop :=
  (∀ b, b < 32 → μ (q + 1) b = gB p b 0 ∧ μ (q + 2) b = (if gB p b 0 = 0 then -1000 else gB p b 1) ∧ μ (q + 3) b = (if gB p b 0 = 0 then -1000 else gB p b 2) ∧ μ (q + 4) b = (if gB p b 0 = 2 then gB p b 3 else -1000) ∧ μ (q + 5) b = gB p b 4 ∧ μ (q + 6) b = gB p b 5) ∧
  (∀ b, b < 32 → gB p b 0 ≠ 0 → gB p b 1 = 0 → ∀ i, i < nB p b 2 → i < 4 → μ (q + 7) (5 * b + i) = gB p b (6 + 2 * i) ∧ μ (q + 8) (5 * b + i) = gB p b (7 + 2 * i)) ∧
  (∀ b, b < 32 → gB p b 0 ≠ 0 → gB p b 1 = 1 → ∀ i, i < nB p b 2 → i < 6 → μ (q + 9) (6 * b + i) = gB p b (6 + i))
def nowp (p : Nat → Int32) : Int32 := gR p (cur p) 1
def drf (p : Nat → Int32) : Int32 := if p 467 < 0 then nowp p else p 467
/-- the relation of a garden (from g on) to a page -/
def RG (g : Nat) (μ : Mem) (p : Nat → Int32) : Prop :=
  RB (g + 1) μ p ∧ (∀ r, r < 2 → μ (g + 11) r = gR p r 0 ∧ μ (g + 12) r = (if gR p r 1 < 0 then -1000 else gR p r 1) ∧ μ (g + 13) r = gR p r 2) ∧
  (∀ r, r < 4 → μ (g + 14) r = (if gD p r 0 = 1 then gD p r 1 else -1000) ∧ μ (g + 15) r = (if gD p r 0 = 1 then gD p r 2 else -1000)) ∧
  μ g 6 = p 466 ∧ μ g 7 = (if p 466 = 1 then drf p else -1000) ∧ μ g 8 = p 468 ∧ μ g 9 = p 469
/-- what the roots and readers of a page are always like: flags are 0 or 1, some root is whole, counts are no NONE -/
def RootOK (p : Nat → Int32) : Prop :=
  (∀ r, r < 2 → (gR p r 2 = 0 ∨ gR p r 2 = 1) ∧ 0 ≤ gR p r 0) ∧ gR p (cur p) 2 = 1 ∧ (∀ r, r < 4 → (gD p r 0 = 0 ∨ gD p r 0 = 1) ∧ (gD p r 0 = 1 → 0 ≤ gD p r 1))
variable {g : Nat} {p : Nat → Int32}
theorem RG.canBeDug (h : RG g μ p) {b : Nat} (hb : b < 32) : f_X1_canBeDug (g + 1) (nI b) (need p (-1)) μ = some (if dg p b then 1 else 0) := by
  rw [canBeDugC_n hb]
  obtain ⟨h1, -, -, h4, -, -⟩ := h.1.1 b hb
  have h1' : μ (g + 1 + 1) b = gB p b 0 := h1
  have h4' : μ (g + 1 + 4) b = if gB p b 0 = 2 then gB p b 3 else -1000 := h4
  rw [h1', h4']
  unfold dg
  by_cases c : gB p b 0 = 2
  · rw [if_pos c]
  · rw [decide_eq_false c, Bool.false_and, Bool.false_and]
theorem RG.currentRoot (h : RG g μ p) (hr : RootOK p) : f_X4_currentRoot g μ = some (nI (cur p)) := by
  have e0 := h.2.1 0 (by decide)
  have e1 := h.2.1 1 (by decide)
  have r0 := hr.1 0 (by decide)
  have r1 := hr.1 1 (by decide)
  have hcu := hr.2.1
  have k0 : ¬ gR p 0 0 ≤ -1000 := fun q => by
    have a := Int32.le_iff_toInt_le.mp q
    have b := Int32.le_iff_toInt_le.mp r0.2
    have c : ((-1000 : Int32)).toInt = -1000 := by decide
    have d : ((0 : Int32)).toInt = 0 := by decide
    omega
  have k1 : ¬ gR p 1 0 ≤ -1000 := fun q => by
    have a := Int32.le_iff_toInt_le.mp q
    have b := Int32.le_iff_toInt_le.mp r1.2
    have c : ((-1000 : Int32)).toInt = -1000 := by decide
    have d : ((0 : Int32)).toInt = 0 := by decide
    omega
  unfold f_X4_currentRoot
  rw [show FU = 4093 + 1 + 1 + 1 from rfl, f_X4_currentRoot_b8, if_neg (by decide), rd_c (i := 0) 0 rfl (by decide) (by decide), rd_c (i := 0) 0 rfl (by decide) (by decide), e0.1, e0.2.2]
  unfold f_X4_currentRoot_b42
  simp only [Option.bind_some]
  rw [show (0 : Int32) + 1 = 1 from rfl]
  unfold cur at hcu ⊢
  by_cases c0 : gR p 0 2 = 1
  · rw [if_pos c0, if_neg k0, f_X4_currentRoot_b8, if_neg (by decide), rd_c (i := 1) 1 rfl (by decide) (by decide), rd_c (i := 1) 1 rfl (by decide) (by decide), e1.1, e1.2.2]
    unfold f_X4_currentRoot_b42
    simp only [Option.bind_some]
    by_cases c1 : gR p 1 2 = 1
    · by_cases c2 : gR p 1 0 ≤ gR p 0 0
      · rw [if_pos c1, if_pos c2, f_X4_currentRoot_b8, if_pos (by decide), if_neg (fun q => q.2.elim (fun q => by rw [c0] at q; exact absurd q (by decide)) (fun q => Int32.not_le.mpr q c2))]
        rfl
      · rw [if_pos c1, if_neg c2, f_X4_currentRoot_b8, if_pos (by decide), if_pos ⟨c1, Or.inr (Int32.not_le.mp c2)⟩]
        rfl
    · rw [if_neg c1, f_X4_currentRoot_b8, if_pos (by decide), if_neg (fun q => c1 q.1)]
      rfl
  · have c0' : gR p 0 2 = 0 := r0.1.resolve_right c0
    rw [if_neg c0, f_X4_currentRoot_b8, if_neg (by decide), rd_c (i := 1) 1 rfl (by decide) (by decide), rd_c (i := 1) 1 rfl (by decide) (by decide), e1.1, e1.2.2]
    unfold f_X4_currentRoot_b42
    simp only [Option.bind_some]
    by_cases c1 : gR p 1 2 = 1
    · rw [if_pos c1, if_neg k1, f_X4_currentRoot_b8, if_pos (by decide), if_pos ⟨c1, Or.inl c0'⟩]
      rfl
    · exfalso
      rw [if_neg (fun q => c1 q.1)] at hcu
      exact c0 hcu
theorem not_none {x : Int32} (h : 0 ≤ x) : ¬ x = -1000 := fun q => by
  rw [q] at h
  exact absurd h (by decide)
theorem mn_eq {a m : Int32} : (if a < m then a else m).toInt = if a.toInt < m.toInt then a.toInt else m.toInt := by
  by_cases c : a < m
  · rw [if_pos c, if_pos (Int32.lt_iff_toInt_lt.mp c)]
  · rw [if_neg c, if_neg (fun h => c (Int32.lt_iff_toInt_lt.mpr h))]
theorem rmin_w {p : Nat → Int32} {r : Nat} {m : Int32} (h : gR p r 2 = 1) : rmin p r m = if gR p r 0 < m then gR p r 0 else m := by
  unfold rmin
  by_cases c : gR p r 0 < m
  · rw [if_pos c, if_pos ⟨h, c⟩]
  · rw [if_neg c, if_neg (fun q => c q.2)]
theorem rmin_n {p : Nat → Int32} {r : Nat} {m : Int32} (h : ¬ gR p r 2 = 1) : rmin p r m = m := by
  unfold rmin
  rw [if_neg (fun q => h q.1)]
theorem need_max {p : Nat → Int32} (hr : RootOK p) : lp (rmin p) 2 0 2147483647 = lp (rmin p) 2 0 (gR p (cur p) 0) := by
  show rmin p 1 (rmin p 0 2147483647) = rmin p 1 (rmin p 0 (gR p (cur p) 0))
  have hm : ∀ x : Int32, x.toInt ≤ 2147483647 := fun x => by
    have q := Int32.toInt_lt x
    omega
  have em : ((2147483647 : Int32)).toInt = 2147483647 := by decide
  have a0 := hm (gR p 0 0)
  have a1 := hm (gR p 1 0)
  have hc := hr.2.1
  have hcc : cur p = 0 ∨ cur p = 1 := by
    have q := cur_lt (p := p)
    omega
  apply Int32.toInt_inj.mp
  by_cases c0 : gR p 0 2 = 1
  · by_cases c1 : gR p 1 2 = 1
    · rw [rmin_w c1, rmin_w c1, rmin_w c0, rmin_w c0, mn_eq, mn_eq, mn_eq, mn_eq, em]
      rcases hcc with e | e <;> rw [e]
      · (repeat' split) <;> omega
      · (repeat' split) <;> omega
    · rw [rmin_n c1, rmin_n c1, rmin_w c0, rmin_w c0, mn_eq, mn_eq, em]
      rcases hcc with e | e
      · rw [e]
        (repeat' split) <;> omega
      · rw [e] at hc
        exact absurd hc c1
  · rw [rmin_n c0, rmin_n c0]
    rcases hcc with e | e
    · rw [e] at hc
      exact absurd hc c0
    · rw [e] at hc ⊢
      rw [rmin_w hc, rmin_w hc, mn_eq, mn_eq, em]
      (repeat' split) <;> omega
theorem RG.b39 (h : RG g μ p) (hr : RootOK p) (x w : Int32) (hx : ∀ r, r < 4 → (nI r = x ↔ nI r = w)) : ∀ (n k fu : Nat) (m : Int32), k + n = 4 → n < fu → f_X4_neededCountBut_b39 g fu x m (nI k) μ = some (lp (dmin p w) n k m) := by
  intro n
  induction n with
  | zero =>
    intro k fu m hk hf
    obtain ⟨f, rfl⟩ : ∃ f, fu = f + 1 := ⟨fu - 1, by omega⟩
    rw [f_X4_neededCountBut_b39, if_pos (lI (c := 4) 4 k rfl (by omega) (by omega))]
    rfl
  | succ n ih =>
    intro k fu m hk hf
    obtain ⟨f, rfl⟩ : ∃ f, fu = f + 1 := ⟨fu - 1, by omega⟩
    have hk2 : k < 4 := by omega
    have hih : ∀ m, f_X4_neededCountBut_b39 g f x m (nI k + 1) μ = some (lp (dmin p w) n (k + 1) m) := fun m => by
      rw [nI_1]
      exact ih (k + 1) f m (by omega) (by omega)
    rw [f_X4_neededCountBut_b39, if_neg (nlI (c := 4) 4 k rfl (by omega) (by omega))]
    unfold f_X4_neededCountBut_b72
    rw [rd_n hk2 (by omega), (h.2.2.1 k hk2).1]
    simp only [Option.bind_some, hih, ↓reduceIte]
    show _ = some (lp (dmin p w) n (k + 1) (dmin p w k m))
    by_cases c1 : nI k = x
    · rw [if_pos c1, dmin_1 ((hx k hk2).mp c1)]
    · have c1' : ¬ nI k = w := fun q => c1 ((hx k hk2).mpr q)
      rw [if_neg c1]
      by_cases c2 : gD p k 0 = 1
      · rw [if_pos c2, if_neg (not_none ((hr.2.2 k hk2).2 c2))]
        by_cases c3 : gD p k 1 < m
        · rw [if_pos c3, dmin_y c1' c2 c3]
        · rw [if_neg c3, dmin_3 c3]
      · rw [if_neg c2, if_pos rfl, dmin_2 c2]
theorem RG.b5 (h : RG g μ p) (hr : RootOK p) (x w : Int32) (hx : ∀ r, r < 4 → (nI r = x ↔ nI r = w)) : ∀ (n k fu : Nat) (m : Int32), k + n = 2 → n < fu → f_X4_neededCountBut_b5 g fu x m (nI k) μ = some (lp (dmin p w) 4 0 (lp (rmin p) n k m)) := by
  intro n
  induction n with
  | zero =>
    intro k fu m hk hf
    obtain ⟨f, rfl⟩ : ∃ f, fu = f + 1 := ⟨fu - 1, by omega⟩
    rw [f_X4_neededCountBut_b5, if_pos (lI (c := 2) 2 k rfl (by omega) (by omega))]
    have q := h.b39 hr x w hx 4 0 FU m (by omega) (by decide)
    rw [nI_0] at q
    exact q
  | succ n ih =>
    intro k fu m hk hf
    obtain ⟨f, rfl⟩ : ∃ f, fu = f + 1 := ⟨fu - 1, by omega⟩
    have hk2 : k < 2 := by omega
    have hih : ∀ m, f_X4_neededCountBut_b5 g f x m (nI k + 1) μ = some (lp (dmin p w) 4 0 (lp (rmin p) n (k + 1) m)) := fun m => by
      rw [nI_1]
      exact ih (k + 1) f m (by omega) (by omega)
    rw [f_X4_neededCountBut_b5, if_neg (nlI (c := 2) 2 k rfl (by omega) (by omega))]
    unfold f_X4_neededCountBut_b31
    rw [rd_n hk2 (by omega), rd_n hk2 (by omega), (h.2.1 k hk2).1, (h.2.1 k hk2).2.2]
    simp only [Option.bind_some, hih, ↓reduceIte]
    show _ = some (lp (dmin p w) 4 0 (lp (rmin p) n (k + 1) (rmin p k m)))
    by_cases c : gR p k 2 = 1
    · rw [if_pos c, rmin_w c]
    · rw [if_neg c, rmin_n c]
theorem RG.neededBut (h : RG g μ p) (hr : RootOK p) (x w : Int32) (hx : ∀ r, r < 4 → (nI r = x ↔ nI r = w)) : f_X4_neededCountBut g x μ = some (need p w) := by
  unfold f_X4_neededCountBut need
  rw [← need_max hr]
  have q := h.b5 hr x w hx 2 0 FU 2147483647 (by omega) (by decide)
  rw [nI_0] at q
  exact q
theorem RG.needed (h : RG g μ p) (hr : RootOK p) : f_X4_neededCount g μ = some (need p (-1)) := by
  unfold f_X4_neededCount
  rw [h.neededBut hr (-1000) (-1) (fun r hr => by
    have hc : r = 0 ∨ r = 1 ∨ r = 2 ∨ r = 3 := by omega
    rcases hc with rfl | rfl | rfl | rfl <;> decide)]
  rfl
theorem RG.needed1 (h : RG g μ p) (hr : RootOK p) : f_X4_neededCountBut g (-1000) μ = some (need p (-1)) :=
  h.neededBut hr (-1000) (-1) (fun r hr => by
    have hc : r = 0 ∨ r = 1 ∨ r = 2 ∨ r = 3 := by omega
    rcases hc with rfl | rfl | rfl | rfl <;> decide)
theorem RG.lowestWild (h : RG g μ p) : ∀ (n k fu : Nat), k + n = 32 → n < fu → f_X1_lowestWild_b2 (g + 1) fu (nI k) μ = some (oI (-1000) (sr (wild p) n k)) := by
  intro n
  induction n with
  | zero =>
    intro k fu hk hf
    obtain ⟨f, rfl⟩ : ∃ f, fu = f + 1 := ⟨fu - 1, by omega⟩
    rw [f_X1_lowestWild_b2, if_pos (lI (c := 32) 32 k rfl (by omega) (by omega))]
    rfl
  | succ n ih =>
    intro k fu hk hf
    obtain ⟨f, rfl⟩ : ∃ f, fu = f + 1 := ⟨fu - 1, by omega⟩
    have hk2 : k < 32 := by omega
    rw [f_X1_lowestWild_b2, if_neg (nlI (c := 32) 32 k rfl (by omega) (by omega)), rd_n hk2 (by omega), show μ (g + 1 + 1) k = gB p k 0 from (h.1.1 k hk2).1]
    simp only [Option.bind_some]
    show _ = some (oI (-1000) (if wild p k then some k else sr (wild p) n (k + 1)))
    by_cases c : gB p k 0 = 0
    · rw [if_pos c, if_pos (show wild p k = true from decide_eq_true c)]
      rfl
    · rw [if_neg c, if_neg (show ¬ wild p k = true from fun q => c (of_decide_eq_true q)), nI_1]
      exact ih (k + 1) f (by omega) (by omega)
def olst (p : Nat → Int32) (o : Option Nat) : Int32 := match o with
  | none => -1000
  | some b => gB p b 3
theorem RG.bedToDig_b11 (h : RG g μ p) : ∀ (n k fu : Nat) (o : Option Nat), k + n = 32 → n < fu → (∀ b, o = some b → b < 32 ∧ dg p b = true) → f_X1_bedToDig_b11 (g + 1) fu (need p (-1)) (oI (-1000) o) (olst p o) (nI k) μ = some (oI (-1000) (match lp (ostep p) n k o with
    | some b => some b
    | none => sr (wild p) 32 0)) := by
  intro n
  induction n with
  | zero =>
    intro k fu o hk hf ho
    obtain ⟨f, rfl⟩ : ∃ f, fu = f + 1 := ⟨fu - 1, by omega⟩
    rw [f_X1_bedToDig_b11, if_pos (lI (c := 32) 32 k rfl (by omega) (by omega))]
    unfold f_X1_bedToDig_b78 f_X1_lowestWild
    cases o with
    | none =>
      have q := h.lowestWild 32 0 FU (by omega) (by decide)
      rw [nI_0] at q
      rw [if_pos (show oI (-1000) none = -1000 from rfl), q]
      rfl
    | some b =>
      rw [if_neg (show ¬ oI (-1000) (some b) = -1000 from fun q => by
        have hb := (ho b rfl).1
        have hz := nI_nz (k := b) (by omega)
        rw [show nI b = -1000 from q] at hz
        exact hz (by decide))]
      rfl
  | succ n ih =>
    intro k fu o hk hf ho
    obtain ⟨f, rfl⟩ : ∃ f, fu = f + 1 := ⟨fu - 1, by omega⟩
    have hk2 : k < 32 := by omega
    have hih := fun (o : Option Nat) ho => ih (k + 1) f o (by omega) (by omega) ho
    rw [f_X1_bedToDig_b11, if_neg (nlI (c := 32) 32 k rfl (by omega) (by omega)), h.canBeDug hk2]
    unfold f_X1_bedToDig_b46 f_X1_bedToDig_b57
    rw [rd_n hk2 (by omega), show μ (g + 1 + 4) k = (if gB p k 0 = 2 then gB p k 3 else -1000) from (h.1.1 k hk2).2.2.2.1]
    simp only [Option.bind_some, ifz, nI_1]
    show _ = some (oI (-1000) (match lp (ostep p) n (k + 1) (ostep p k o) with
      | some b => some b
      | none => sr (wild p) 32 0))
    by_cases c1 : dg p k = true
    · have c1' : gB p k 0 = 2 := of_decide_eq_true (Bool.and_eq_true_iff.mp c1).1
      have hk3 := hih (some k) (fun b h => by cases h; exact ⟨hk2, c1⟩)
      rw [if_pos c1, if_pos c1']
      cases o with
      | none =>
        rw [if_pos (show oI (-1000) none = -1000 from rfl), ostep_none c1]
        exact hk3
      | some b =>
        have hb := ho b rfl
        rw [if_neg (show ¬ oI (-1000) (some b) = -1000 from fun q => by
          have hz := nI_nz (k := b) (by omega)
          rw [show nI b = -1000 from q] at hz
          exact hz (by decide))]
        by_cases c2 : gB p b 3 ≤ gB p k 3
        · rw [if_pos (show olst p (some b) ≤ gB p k 3 from c2), ostep_n c1 (Int32.not_lt.mpr c2)]
          exact hih (some b) ho
        · rw [if_neg (show ¬ olst p (some b) ≤ gB p k 3 from c2), ostep_y c1 (Int32.not_le.mp c2)]
          exact hk3
    · rw [if_neg c1, ostep_no (eq_false_of_ne_true c1)]
      exact hih o ho
theorem RG.bedToDig1 (h : RG g μ p) : f_X1_bedToDig (g + 1) (need p (-1)) μ = some (oI (-1000) (nxt p)) := by
  unfold f_X1_bedToDig nxt
  have q := h.bedToDig_b11 32 0 FU none (by omega) (by decide) (fun b h => by cases h)
  rw [nI_0] at q
  exact q
end PCLSR
