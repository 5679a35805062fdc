/-! p28, PURE: the whole law -/
section PZLAW
variable {q g hw t L : Nat} {μ μ0 μ1 μ' : Mem} {p p' p'' P Q : Nat → Int32} {xs : Nat → Int32} {x s0 : Int32} {B C : Int} {K : Int32 → Int32 → Mem → Option (Int32 × Mem)}
theorem two_n : (2 : Int32) * nI t = nI (2 * t) := by
  rw [show (2 : Int32) = nI 2 from rfl, nI_mul]
theorem b174_ok (h : J28 B μ p) (h20 : hw < 20) (hs : hw < 12 → sgt p = sgt p'') : f_L_law_b174 xs L K (nI t) (sgt p'') (nI hw) μ = K 1 (nI t + 1) μ := by
  unfold f_L_law_b174
  by_cases c : hw < 12
  · rw [if_neg (show ¬ 11 < nI hw from nI_gt (c := 11) 11 rfl (by omega) (by decide)), sight_e h, Option.bind_some, hs c, if_pos (cmp_same _)]
    rfl
  · rw [if_pos (show 11 < nI hw from nI_lt (a := 11) (by omega) (by omega))]
    rfl
theorem b132_ok (h : J28 B μ p) (hB : B < 1000000) (hL : L ≤ 260) (ht : t < 60) (h20 : hw < 20) (e : f_L_low s0 20 = some (nI hw)) : ∃ p' μ', J28 (B + 1) μ' p' ∧ f_L_law_b132 xs L K (nI t) (sgt p) (nI hw) s0 μ = K 1 (nI t + 1) μ' := by
  obtain ⟨v, ev⟩ := lot_y (xs := xs) (k := 2 * t + 1) (L := L) (by omega) hL
  obtain ⟨p', μ1, e1, e2, e3⟩ := acts_ok (a2 := v) h hB h20 e
  obtain ⟨μ', f1, f2⟩ := beds_ok e2
  have hJ := e2.fr f2
  refine ⟨p', μ', hJ, ?_⟩
  have e174 := b174_ok (xs := xs) (L := L) (K := K) (t := t) (p'' := p) hJ h20 (fun c => (e3 c).sight h.2.1)
  unfold f_L_law_b132
  rw [two_n, nI_1, ev, Option.bind_some, e1, bn2_some, if_neg (by decide), f1, bn2_some, if_neg (by decide), roots_ok hJ, Option.bind_some, if_neg (by decide), e174]
  by_cases c : nI t - nI t / 2 * 2 = 0
  · rw [if_pos c]
  · rw [if_neg c, entries_ok hJ, Option.bind_some, if_neg (by decide)]
theorem law_loop (hL : L ≤ 260) : ∀ (n t fu : Nat) (B : Int) (μ : Mem) (p : Nat → Int32), t + n = 60 → n < fu → J28 B μ p → B + n < 1000000 → ∃ μ', f_L_law_b65 xs L fu 1 (nI t) μ = some (1, μ') := by
  intro n
  induction n with
  | zero =>
    intro t fu B μ p ht hf h hB
    obtain ⟨fu, rfl⟩ : ∃ z, fu = z + 1 := ⟨fu - 1, by omega⟩
    refine ⟨μ, ?_⟩
    rw [f_L_law_b65, if_pos (lI (c := 60) 60 t rfl (by omega) (by omega))]
    rfl
  | succ n ih =>
    intro t fu B μ p ht hf h hB
    obtain ⟨fu, rfl⟩ : ∃ z, fu = z + 1 := ⟨fu - 1, by omega⟩
    obtain ⟨v, ev⟩ := lot_y (xs := xs) (k := 2 * t) (L := L) (by omega) hL
    have go : ∀ (s0 : Int32) (hw : Nat), hw < 20 → f_L_low s0 20 = some (nI hw) → ∃ μ', f_L_law_b132 xs L (f_L_law_b65 xs L fu) (nI t) (sgt p) (nI hw) s0 μ = some (1, μ') := fun s0 hw h20 e => by
      obtain ⟨p', μ', j1, j2⟩ := b132_ok (xs := xs) (L := L) (K := f_L_law_b65 xs L fu) (t := t) h (by omega) hL (by omega) h20 e
      rw [j2, nI_1]
      exact ih (t + 1) fu (B + 1) μ' p' (by omega) (by omega) j1 (by omega)
    rw [f_L_law_b65, if_neg (nlI (c := 60) 60 t rfl (by omega) (by omega)), if_neg (by decide), two_n, ev, Option.bind_some, sight_e h, Option.bind_some]
    unfold f_L_law_b102
    by_cases c : (8 : Int32) ≤ nI t
    · obtain ⟨hw, h20, e⟩ := low_n (m := 20) v (by decide) (by decide)
      have e : f_L_low v 20 = some (nI hw) := e
      rw [if_pos c, e, Option.bind_some, if_pos c]
      exact go v hw h20 e
    · rw [if_neg c, low_0, Option.bind_some, if_neg c]
      exact go _ 0 (by decide) (low_r v)
theorem law_ok (hL : L ≤ 260) (h : J28 1 μ p) (h0 : μ 17 1 = 0) (c0 : p 466 = 0) (hc : gR p (cur p) 0 = 1) : ∃ μ', f_L_law xs L μ = some (1, μ') := by
  obtain ⟨μ1, f1, f2⟩ := beds_ok h
  have hJ := h.fr f2
  have m17 : μ1 17 1 = 0 := by
    rw [f2 17 (by decide)]
    exact h0
  have eu : f_L_undo 0 μ1 = some (-2902, μ1) := by
    unfold f_L_undo f_X6_undo f_X6_undo_b15 f_X6_undo_t f_X6_undo_t_b15
    rw [show μ1 (0 + 17) 1 = 0 from m17, if_pos (by decide), refuse33, if_pos (by decide)]
    rfl
  obtain ⟨p', μ2, b1, b2, -⟩ := beg_y hJ c0
  obtain ⟨μ', e⟩ := law_loop (xs := xs) hL 60 0 61 1 μ2 p' (by omega) (by omega) b2 (by decide)
  refine ⟨μ', ?_⟩
  unfold f_L_law
  rw [f1, bn2_some, if_neg (by decide), roots_ok hJ, Option.bind_some, if_neg (by decide), entries_ok hJ, Option.bind_some, if_neg (by decide), eu, bn2_some, if_pos rfl, Labort_n hJ c0, bn2_some, if_pos rfl, b1, bn2_some, if_pos hc]
  exact e
theorem pure_all : ∃ gm : Nat → Mem, (∀ b, f_X4_ctor b = some (gm b)) ∧ ∀ (xs : Nat → Int32) (L : Nat), L ≤ 260 → ∃ μ', f_L_law xs L (pμ gm 0) = some (1, μ') := by
  have hg : ∀ b, f_X4_ctor b = some ((f_X4_ctor b).getD zμ) ∧ RG b ((f_X4_ctor b).getD zμ) p0 := fun b => by
    obtain ⟨μ', e1, e2⟩ := ctor_e b
    rw [e1]
    exact ⟨rfl, e2⟩
  obtain ⟨gm, egm⟩ : ∃ gm : Nat → Mem, gm = fun b => (f_X4_ctor b).getD zμ := ⟨_, rfl⟩
  have g1 : ∀ b, f_X4_ctor b = some (gm b) := fun b => by rw [egm]; exact (hg b).1
  have g2 : ∀ b, RG b (gm b) p0 := fun b => by rw [egm]; exact (hg b).2
  have lo : ∀ z, z < 17 → pμ gm 0 z = gm 1 z := fun z hz => if_pos (by omega)
  have m17 : pμ gm 0 17 = zμ 17 := by
    unfold pμ
    rw [pw_r (show 0 + 17 ≤ 17 by omega), pw_l (show 17 < 0 + 83 by omega)]
    unfold hμ
    rw [pw_l (show 17 < 0 + 17 + 2 by omega)]
  have hJ : J28 1 (pμ gm 0) p0 := ⟨(g2 1).fr16 (fun z z1 z2 => lo z (by omega)), INV_0, WX_0, 0, 0, by decide, by decide, by rw [m17]; rfl, by rw [m17]; rfl⟩
  refine ⟨gm, g1, fun xs L hL => law_ok hL hJ (by rw [m17]; rfl) (p0_0 (by decide) (by decide)) ?_⟩
  rw [p0_cur]
  exact p0_gR.1
end PZLAW
