/-! PURE, the class copies a directory or a leaf: as the model does -/
section PCOPY
variable {q : Nat} {μ : Mem} {p : Nat → Int32} {b b' w w' k r v s t i : Nat} {x y kind : Int32}
def cdL (q s t n k : Nat) (μ : Mem) : Mem := lp (fun j μ => mst μ (q + 9) (6 * t + j) (μ (q + 9) (6 * s + j))) n k μ
theorem cdL_ne : ∀ (n k : Nat) (μ : Mem) (z : Nat), z ≠ q + 9 → cdL q s t n k μ z = μ z
  | 0, _, _, _, _ => rfl
  | n + 1, k, μ, z, h => by
    show cdL q s t n (k + 1) (mst μ (q + 9) (6 * t + k) (μ (q + 9) (6 * s + k))) z = μ z
    rw [cdL_ne n (k + 1) _ z h, mst_ne h]
theorem cdL_eq (hst : s ≠ t) : ∀ (n k : Nat) (μ : Mem), k + n ≤ 6 → ∀ i, cdL q s t n k μ (q + 9) i = if 6 * t + k ≤ i ∧ i < 6 * t + (k + n) then μ (q + 9) (6 * s + (i - 6 * t)) else μ (q + 9) i
  | 0, k, μ, _, i => (if_neg (by omega)).symm
  | n + 1, k, μ, h, i => by
    show cdL q s t n (k + 1) (mst μ (q + 9) (6 * t + k) (μ (q + 9) (6 * s + k))) (q + 9) i = _
    rw [cdL_eq hst n (k + 1) _ (by omega) i, mst_eq]
    by_cases c : 6 * t + k ≤ i ∧ i < 6 * t + (k + (n + 1))
    · rw [if_pos c]
      by_cases c2 : i = 6 * t + k
      · rw [if_neg (by omega), c2, upd_eq]
        congr 1
        omega
      · rw [if_pos (by omega), upd_ne (by omega)]
    · rw [if_neg c, if_neg (by omega), upd_ne (by omega)]
theorem copyDirectory_b9 (hs : s < 32) (ht : t < 32) (hst : s ≠ t) : ∀ (n k fu m : Nat) (μ : Mem), k + n = m → m ≤ 6 → n < fu → f_X1_copyDirectory_b9 q fu (nI s) (nI t) (nI m) (nI k) μ = some (mst (cdL q s t n k μ) (q + 3) t (nI m)) := by
  intro n
  induction n with
  | zero =>
    intro k fu m μ hk hm hf
    obtain ⟨fu, rfl⟩ : ∃ z, fu = z + 1 := ⟨fu - 1, by omega⟩
    rw [f_X1_copyDirectory_b9, if_pos (nI_le (by omega) (by omega)), setCell_n ht (by decide)]
    rfl
  | succ n ih =>
    intro k fu m μ hk hm hf
    obtain ⟨fu, rfl⟩ : ∃ z, fu = z + 1 := ⟨fu - 1, by omega⟩
    rw [f_X1_copyDirectory_b9, if_neg (nI_ge (by omega) (by omega)), leafAt_n hs (by omega), Option.bind_some, setLeaf_n ht (by omega), Option.bind_some, nI_1, ih (k + 1) fu m _ (by omega) hm (by omega)]
    rfl
theorem nB_of {p p' : Nat → Int32} {b b' w w' : Nat} (h : gB p b w = gB p' b' w') : nB p b w = nB p' b' w' := by unfold nB; rw [h]
theorem RB.copyDirectory (h : RB q μ p) (hd : DirOK p s) (ht : t < 32) (hst : s ≠ t) (h0 : gB p t 0 ≠ 0) (h1 : gB p t 1 = 1) : ∃ μ', f_X1_copyDirectory q (nI s) (nI t) μ = some μ' ∧ RB q μ' (cpB p s t) ∧ Fr q μ μ' := by
  have h6 := hd.2.2.2.2.1
  unfold f_X1_copyDirectory
  rw [h.size hd.1 hd.2.1, Option.bind_some, hd.2.2.2.1]
  have e := copyDirectory_b9 (q := q) hd.1 ht hst (nB p s 2) 0 FU (nB p s 2) μ (by omega) h6 (by unfold FU; omega)
  rw [nI_0] at e
  have elo : ∀ b' w', w' < 6 → w' ≠ 2 → gB (cpB p s t) b' w' = gB p b' w' := fun b' w' h1 h2 => by rw [cpB_gB (by omega), if_neg (by omega)]
  refine ⟨_, e, ⟨fun b' hb' => ?_, fun b' hb' g0 g1 i hi h4 => ?_, fun b' hb' g0 g1 i hi h4 => ?_⟩, fun k hk => ?_⟩
  · rw [elo b' 0 (by omega) (by omega), elo b' 1 (by omega) (by omega), elo b' 3 (by omega) (by omega), elo b' 4 (by omega) (by omega), elo b' 5 (by omega) (by omega)]
    have eb := h.1 b' hb'
    rw [mst_ne (by omega), mst_ne (by omega), mst_eq, mst_ne (by omega), mst_ne (by omega), mst_ne (by omega), cdL_ne _ _ _ _ (by omega), cdL_ne _ _ _ _ (by omega), cdL_ne _ _ _ _ (by omega), cdL_ne _ _ _ _ (by omega), cdL_ne _ _ _ _ (by omega), cdL_ne _ _ _ _ (by omega)]
    refine ⟨eb.1, eb.2.1, ?_, eb.2.2.2.1, eb.2.2.2.2.1, eb.2.2.2.2.2⟩
    rw [cpB_gB (by decide)]
    by_cases c : b' = t
    · rw [if_pos (show b' = t ∧ (2 = 2 ∨ 6 ≤ 2) from ⟨c, Or.inl rfl⟩), c, upd_eq, if_neg h0, hd.2.2.2.1]
    · rw [if_neg (show ¬ (b' = t ∧ (2 = 2 ∨ 6 ≤ 2)) from fun z => c z.1), upd_ne c]
      exact eb.2.2.1
  · rw [elo b' 0 (by omega) (by omega)] at g0
    rw [elo b' 1 (by omega) (by omega)] at g1
    have c : b' ≠ t := fun z => by rw [z, h1] at g1; exact absurd g1 (by decide)
    rw [nB_of (show gB (cpB p s t) b' 2 = gB p b' 2 by rw [cpB_gB (by decide), if_neg (fun z => c z.1)])] at hi
    rw [cpB_gB (by omega), cpB_gB (by omega), if_neg (fun z => c z.1), if_neg (fun z => c z.1), mst_ne (by omega), mst_ne (by omega), cdL_ne _ _ _ _ (by omega), cdL_ne _ _ _ _ (by omega)]
    exact h.2.1 b' hb' g0 g1 i hi h4
  · rw [elo b' 0 (by omega) (by omega)] at g0
    rw [elo b' 1 (by omega) (by omega)] at g1
    rw [mst_ne (by omega), cdL_eq hst _ _ _ (by omega)]
    by_cases c : b' = t
    · rw [nB_of (show gB (cpB p s t) b' 2 = gB p s 2 by rw [cpB_gB (by decide), if_pos ⟨c, Or.inl rfl⟩])] at hi
      rw [if_pos (by omega), cpB_gB (by omega), if_pos ⟨c, Or.inr (by omega)⟩, c, show 6 * t + i - 6 * t = i by omega]
      exact h.2.2 s hd.1 hd.2.1 hd.2.2.1 i hi h4
    · rw [nB_of (show gB (cpB p s t) b' 2 = gB p b' 2 by rw [cpB_gB (by decide), if_neg (fun z => c z.1)])] at hi
      rw [if_neg (by omega), cpB_gB (by omega), if_neg (fun z => c z.1)]
      exact h.2.2 b' hb' g0 g1 i hi h4
  · rw [mst_ne (by omega), cdL_ne _ _ _ _ (by omega)]
def clL (q s t n k : Nat) (μ : Mem) : Mem := lp (fun j μ => mst (mst μ (q + 7) (5 * t + j) (μ (q + 7) (5 * s + j))) (q + 8) (5 * t + j) (μ (q + 8) (5 * s + j))) n k μ
theorem clL_ne : ∀ (n k : Nat) (μ : Mem) (z : Nat), z ≠ q + 7 → z ≠ q + 8 → clL q s t n k μ z = μ z
  | 0, _, _, _, _, _ => rfl
  | n + 1, k, μ, z, h, h' => by
    show clL q s t n (k + 1) (mst (mst μ (q + 7) (5 * t + k) (μ (q + 7) (5 * s + k))) (q + 8) (5 * t + k) (μ (q + 8) (5 * s + k))) z = μ z
    rw [clL_ne n (k + 1) _ z h h', mst_ne h', mst_ne h]
theorem clL_eq (hst : s ≠ t) : ∀ (n k : Nat) (μ : Mem), k + n ≤ 5 → ∀ i, clL q s t n k μ (q + 7) i = (if 5 * t + k ≤ i ∧ i < 5 * t + (k + n) then μ (q + 7) (5 * s + (i - 5 * t)) else μ (q + 7) i) ∧ clL q s t n k μ (q + 8) i = (if 5 * t + k ≤ i ∧ i < 5 * t + (k + n) then μ (q + 8) (5 * s + (i - 5 * t)) else μ (q + 8) i)
  | 0, k, μ, _, i => ⟨(if_neg (by omega)).symm, (if_neg (by omega)).symm⟩
  | n + 1, k, μ, h, i => by
    have e := clL_eq hst n (k + 1) (mst (mst μ (q + 7) (5 * t + k) (μ (q + 7) (5 * s + k))) (q + 8) (5 * t + k) (μ (q + 8) (5 * s + k))) (by omega) i
    rw [mst_ne (by omega), mst_eq, mst_eq, mst_ne (by omega)] at e
    show clL q s t n (k + 1) (mst (mst μ (q + 7) (5 * t + k) (μ (q + 7) (5 * s + k))) (q + 8) (5 * t + k) (μ (q + 8) (5 * s + k))) (q + 7) i = _ ∧ clL q s t n (k + 1) (mst (mst μ (q + 7) (5 * t + k) (μ (q + 7) (5 * s + k))) (q + 8) (5 * t + k) (μ (q + 8) (5 * s + k))) (q + 8) i = _
    rw [e.1, e.2]
    by_cases c : 5 * t + k ≤ i ∧ i < 5 * t + (k + (n + 1))
    · rw [if_pos c, if_pos c]
      by_cases c2 : i = 5 * t + k
      · rw [if_neg (by omega), if_neg (by omega), c2, upd_eq, upd_eq, show 5 * t + k - 5 * t = k by omega]
        exact ⟨rfl, rfl⟩
      · rw [if_pos (by omega), if_pos (by omega), upd_ne (by omega), upd_ne (by omega)]
        exact ⟨rfl, rfl⟩
    · rw [if_neg c, if_neg c, if_neg (by omega), if_neg (by omega), upd_ne (by omega), upd_ne (by omega)]
      exact ⟨rfl, rfl⟩
theorem copyLeaf_b9 (hs : s < 32) (ht : t < 32) : ∀ (n k fu m : Nat) (μ : Mem), k + n = m → m ≤ 5 → n < fu → f_X1_copyLeaf_b9 q fu (nI s) (nI t) (nI m) (nI k) μ = some (mst (clL q s t n k μ) (q + 3) t (nI m)) := by
  intro n
  induction n with
  | zero =>
    intro k fu m μ hk hm hf
    obtain ⟨fu, rfl⟩ : ∃ z, fu = z + 1 := ⟨fu - 1, by omega⟩
    rw [f_X1_copyLeaf_b9, if_pos (nI_le (by omega) (by omega)), setCell_n ht (by decide)]
    rfl
  | succ n ih =>
    intro k fu m μ hk hm hf
    obtain ⟨fu, rfl⟩ : ∃ z, fu = z + 1 := ⟨fu - 1, by omega⟩
    rw [f_X1_copyLeaf_b9, if_neg (nI_ge (by omega) (by omega)), moveEntry_n hs (by omega) ht (by omega), Option.bind_some, nI_1, ih (k + 1) fu m _ (by omega) hm (by omega)]
    rfl
theorem RB.copyLeaf (h : RB q μ p) (hl : LeafOK p s) (ht : t < 32) (hst : s ≠ t) (h0 : gB p t 0 ≠ 0) (h1 : gB p t 1 = 0) : ∃ μ', f_X1_copyLeaf q (nI s) (nI t) μ = some μ' ∧ RB q μ' (cpB p s t) ∧ Fr q μ μ' := by
  have h4' := hl.2.2.2.2.2.1
  unfold f_X1_copyLeaf
  rw [h.size hl.1 hl.2.1, Option.bind_some, hl.2.2.2.1]
  have e := copyLeaf_b9 (q := q) hl.1 ht (nB p s 2) 0 FU (nB p s 2) μ (by omega) (by omega) (by unfold FU; omega)
  rw [nI_0] at e
  have elo : ∀ b' w', w' < 6 → w' ≠ 2 → gB (cpB p s t) b' w' = gB p b' w' := fun b' w' h1 h2 => by rw [cpB_gB (by omega), if_neg (by omega)]
  refine ⟨_, e, ⟨fun b' hb' => ?_, fun b' hb' g0 g1 i hi h4 => ?_, fun b' hb' g0 g1 i hi h4 => ?_⟩, fun k hk => ?_⟩
  · rw [elo b' 0 (by omega) (by omega), elo b' 1 (by omega) (by omega), elo b' 3 (by omega) (by omega), elo b' 4 (by omega) (by omega), elo b' 5 (by omega) (by omega)]
    have eb := h.1 b' hb'
    rw [mst_ne (by omega), mst_ne (by omega), mst_eq, mst_ne (by omega), mst_ne (by omega), mst_ne (by omega), clL_ne _ _ _ _ (by omega) (by omega), clL_ne _ _ _ _ (by omega) (by omega), clL_ne _ _ _ _ (by omega) (by omega), clL_ne _ _ _ _ (by omega) (by omega), clL_ne _ _ _ _ (by omega) (by omega), clL_ne _ _ _ _ (by omega) (by omega)]
    refine ⟨eb.1, eb.2.1, ?_, eb.2.2.2.1, eb.2.2.2.2.1, eb.2.2.2.2.2⟩
    rw [cpB_gB (by decide)]
    by_cases c : b' = t
    · rw [if_pos (show b' = t ∧ (2 = 2 ∨ 6 ≤ 2) from ⟨c, Or.inl rfl⟩), c, upd_eq, if_neg h0, hl.2.2.2.1]
    · rw [if_neg (show ¬ (b' = t ∧ (2 = 2 ∨ 6 ≤ 2)) from fun z => c z.1), upd_ne c]
      exact eb.2.2.1
  · rw [elo b' 0 (by omega) (by omega)] at g0
    rw [elo b' 1 (by omega) (by omega)] at g1
    rw [mst_ne (by omega), mst_ne (by omega), (clL_eq hst _ _ _ (by omega) _).1, (clL_eq hst _ _ _ (by omega) _).2]
    by_cases c : b' = t
    · rw [nB_of (show gB (cpB p s t) b' 2 = gB p s 2 by rw [cpB_gB (by decide), if_pos ⟨c, Or.inl rfl⟩])] at hi
      rw [if_pos (by omega), if_pos (by omega), cpB_gB (by omega), cpB_gB (by omega), if_pos ⟨c, Or.inr (by omega)⟩, if_pos ⟨c, Or.inr (by omega)⟩, c, show 5 * t + i - 5 * t = i by omega]
      exact h.2.1 s hl.1 hl.2.1 hl.2.2.1 i hi h4
    · rw [nB_of (show gB (cpB p s t) b' 2 = gB p b' 2 by rw [cpB_gB (by decide), if_neg (fun z => c z.1)])] at hi
      rw [if_neg (by omega), if_neg (by omega), cpB_gB (by omega), cpB_gB (by omega), if_neg (fun z => c z.1), if_neg (fun z => c z.1)]
      exact h.2.1 b' hb' g0 g1 i hi h4
  · rw [elo b' 0 (by omega) (by omega)] at g0
    rw [elo b' 1 (by omega) (by omega)] at g1
    have c : b' ≠ t := fun z => by rw [z, h1] at g1; exact absurd g1 (by decide)
    rw [nB_of (show gB (cpB p s t) b' 2 = gB p b' 2 by rw [cpB_gB (by decide), if_neg (fun z => c z.1)])] at hi
    rw [cpB_gB (by omega), if_neg (fun z => c z.1), mst_ne (by omega), clL_ne _ _ _ _ (by omega) (by omega)]
    exact h.2.2 b' hb' g0 g1 i hi h4
  · rw [mst_ne (by omega), clL_ne _ _ _ _ (by omega) (by omega)]
end PCOPY
