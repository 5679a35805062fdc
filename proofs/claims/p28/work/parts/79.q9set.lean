/-! PURE, contents set on both sides; a leaf put into, or cut out of, a directory -/
section PSET
variable {q : Nat} {μ : Mem} {p : Nat → Int32} {b b' w w' k r v s t i d n pl : Nat} {x y kind : Int32}
theorem RB.setLeafR (h : RB q μ p) (hd : d < 32) (h1 : gB p d 1 = 1) (hi : i < 6) : RB q (mst μ (q + 9) (6 * d + i) x) (sB p d (6 + i) x) := by
  have lo : ∀ b' w', w' < 6 → gB (sB p d (6 + i) x) b' w' = gB p b' w' := fun b' w' hw => by
    rw [gB_sB (by omega) (by omega), if_neg (by omega)]
  refine ⟨fun b' hb' => ?_, fun b' hb' g0 g1 j hj h4 => ?_, fun b' hb' g0 g1 j hj h4 => ?_⟩
  · rw [lo b' 0 (by decide), lo b' 1 (by decide), lo b' 2 (by decide), lo b' 3 (by decide), lo b' 4 (by decide), lo b' 5 (by decide)]
    have e : ∀ z, z ≠ q + 9 → mst μ (q + 9) (6 * d + i) x z = μ z := fun z z1 => mst_ne z1
    rw [e (q + 1) (by omega), e (q + 2) (by omega), e (q + 3) (by omega), e (q + 4) (by omega), e (q + 5) (by omega), e (q + 6) (by omega)]
    exact h.1 b' hb'
  · rw [lo b' 0 (by decide)] at g0
    rw [lo b' 1 (by decide)] at g1
    have c : b' ≠ d := fun z => by rw [z, h1] at g1; exact absurd g1 (by decide)
    rw [nB_of (lo b' 2 (by decide))] at hj
    rw [gB_sB (by omega) (by omega), if_neg (fun z => c z.1), gB_sB (by omega) (by omega), if_neg (fun z => c z.1), mst_ne (by omega), mst_ne (by omega)]
    exact h.2.1 b' hb' g0 g1 j hj h4
  · rw [lo b' 0 (by decide)] at g0
    rw [lo b' 1 (by decide)] at g1
    rw [nB_of (lo b' 2 (by decide))] at hj
    rw [gB_sB (by omega) (by omega), mst_eq]
    by_cases c : b' = d ∧ 6 + j = 6 + i
    · rw [if_pos c, c.1, show j = i by omega, upd_eq]
    · rw [if_neg c, upd_ne (by omega)]
      exact h.2.2 b' hb' g0 g1 j hj h4
theorem RB.setEntR (h : RB q μ p) (hd : d < 32) (h1 : gB p d 1 = 0) (hi : i < 4) : RB q (mst (mst μ (q + 7) (5 * d + i) x) (q + 8) (5 * d + i) y) (sB (sB p d (6 + 2 * i) x) d (7 + 2 * i) y) := by
  have lo : ∀ b' w', w' < 6 → gB (sB (sB p d (6 + 2 * i) x) d (7 + 2 * i) y) b' w' = gB p b' w' := fun b' w' hw => by
    rw [gB_sB (by omega) (by omega), if_neg (by omega), gB_sB (by omega) (by omega), if_neg (by omega)]
  refine ⟨fun b' hb' => ?_, fun b' hb' g0 g1 j hj h4 => ?_, fun b' hb' g0 g1 j hj h4 => ?_⟩
  · rw [lo b' 0 (by decide), lo b' 1 (by decide), lo b' 2 (by decide), lo b' 3 (by decide), lo b' 4 (by decide), lo b' 5 (by decide)]
    have e : ∀ z, z ≠ q + 7 → z ≠ q + 8 → mst (mst μ (q + 7) (5 * d + i) x) (q + 8) (5 * d + i) y z = μ z := fun z z1 z2 => by rw [mst_ne z2, mst_ne z1]
    rw [e (q + 1) (by omega) (by omega), e (q + 2) (by omega) (by omega), e (q + 3) (by omega) (by omega), e (q + 4) (by omega) (by omega), e (q + 5) (by omega) (by omega), e (q + 6) (by omega) (by omega)]
    exact h.1 b' hb'
  · rw [lo b' 0 (by decide)] at g0
    rw [lo b' 1 (by decide)] at g1
    rw [nB_of (lo b' 2 (by decide))] at hj
    have e := h.2.1 b' hb' g0 g1 j hj h4
    rw [mst_ne (show q + 7 ≠ q + 8 by omega), mst_eq, mst_eq, mst_ne (show q + 8 ≠ q + 7 by omega)]
    by_cases c : b' = d ∧ j = i
    · rw [c.1, c.2, upd_eq, upd_eq]
      refine ⟨?_, ?_⟩
      · rw [gB_sB (by omega) (by omega), if_neg (by omega), gB_sB (by omega) (by omega), if_pos ⟨rfl, rfl⟩]
      · rw [gB_sB (by omega) (by omega), if_pos ⟨rfl, rfl⟩]
    · rw [upd_ne (by omega), upd_ne (by omega)]
      refine ⟨?_, ?_⟩
      · rw [gB_sB (by omega) (by omega), if_neg (by omega), gB_sB (by omega) (by omega), if_neg (by omega)]
        exact e.1
      · rw [gB_sB (by omega) (by omega), if_neg (by omega), gB_sB (by omega) (by omega), if_neg (by omega)]
        exact e.2
  · rw [lo b' 0 (by decide)] at g0
    rw [lo b' 1 (by decide)] at g1
    have c : b' ≠ d := fun z => by rw [z, h1] at g1; exact absurd g1 (by decide)
    rw [nB_of (lo b' 2 (by decide))] at hj
    rw [gB_sB (by omega) (by omega), if_neg (fun z => c z.1), gB_sB (by omega) (by omega), if_neg (fun z => c z.1), mst_ne (by omega), mst_ne (by omega)]
    exact h.2.2 b' hb' g0 g1 j hj h4
def EqL (q : Nat) (μ : Mem) (p : Nat → Int32) (d n : Nat) : Prop := ∀ i, i < n → i < 6 → μ (q + 9) (6 * d + i) = gB p d (6 + i)
def EqE (q : Nat) (μ : Mem) (p : Nat → Int32) (d n : Nat) : Prop := ∀ i, i < n → i < 4 → μ (q + 7) (5 * d + i) = gB p d (6 + 2 * i) ∧ μ (q + 8) (5 * d + i) = gB p d (7 + 2 * i)
theorem RB.setSize (h : RB q μ p) (hb : b < 32) (h0 : gB p b 0 ≠ 0) (hn : n < 2 ^ 31) (hc0 : gB p b 1 = 0 → EqE q μ p b n) (hc1 : gB p b 1 = 1 → EqL q μ p b n) : RB q (mst μ (q + 3) b (nI n)) (sB p b 2 (nI n)) := by
  have lo : ∀ b' w', w' < 14 → w' ≠ 2 → gB (sB p b 2 (nI n)) b' w' = gB p b' w' := fun b' w' hw h2 => by
    rw [gB_sB (by omega) hw, if_neg (by omega)]
  have e2 : nB (sB p b 2 (nI n)) b 2 = n := by
    unfold nB
    rw [gB_sB (by omega) (by omega), if_pos ⟨rfl, rfl⟩, nI_clamp hn]
  refine ⟨fun b' hb' => ?_, fun b' hb' g0 g1 j hj h4 => ?_, fun b' hb' g0 g1 j hj h4 => ?_⟩
  · have e := h.1 b' hb'
    rw [lo b' 0 (by decide) (by decide), lo b' 1 (by decide) (by decide), lo b' 3 (by decide) (by decide), lo b' 4 (by decide) (by decide), lo b' 5 (by decide) (by decide), mst_ne (by omega), mst_ne (by omega), mst_eq, mst_ne (by omega), mst_ne (by omega), mst_ne (by omega)]
    refine ⟨e.1, e.2.1, ?_, e.2.2.2.1, e.2.2.2.2.1, e.2.2.2.2.2⟩
    rw [gB_sB (by decide) (by decide)]
    by_cases c : b' = b
    · rw [if_pos (show b' = b ∧ 2 = 2 from ⟨c, rfl⟩), c, upd_eq, if_neg h0]
    · rw [if_neg (show ¬ (b' = b ∧ 2 = 2) from fun z => c z.1), upd_ne c]
      exact e.2.2.1
  · rw [lo b' 0 (by decide) (by decide)] at g0
    rw [lo b' 1 (by decide) (by decide)] at g1
    rw [lo b' _ (by omega) (by omega), lo b' _ (by omega) (by omega), mst_ne (by omega), mst_ne (by omega)]
    by_cases c : b' = b
    · rw [c] at hj g1 ⊢
      rw [e2] at hj
      exact hc0 g1 j hj h4
    · rw [nB_of (show gB (sB p b 2 (nI n)) b' 2 = gB p b' 2 by rw [gB_sB (by decide) (by decide), if_neg (fun z => c z.1)])] at hj
      exact h.2.1 b' hb' g0 g1 j hj h4
  · rw [lo b' 0 (by decide) (by decide)] at g0
    rw [lo b' 1 (by decide) (by decide)] at g1
    rw [lo b' _ (by omega) (by omega), mst_ne (by omega)]
    by_cases c : b' = b
    · rw [c] at hj g1 ⊢
      rw [e2] at hj
      exact hc1 g1 j hj h4
    · rw [nB_of (show gB (sB p b 2 (nI n)) b' 2 = gB p b' 2 by rw [gB_sB (by decide) (by decide), if_neg (fun z => c z.1)])] at hj
      exact h.2.2 b' hb' g0 g1 j hj h4
theorem EqL.set (h : EqL q μ p d n) (hi : i ≤ n) (h6 : i < 6) : EqL q (mst μ (q + 9) (6 * d + i) x) (sB p d (6 + i) x) d (if i = n then n + 1 else n) := by
  intro j hj hj6
  rw [mst_eq, gB_sB (by omega) (by omega)]
  by_cases c : j = i
  · rw [c, upd_eq, if_pos ⟨rfl, rfl⟩]
  · rw [upd_ne (by omega), if_neg (by omega)]
    refine h j ?_ hj6
    split at hj <;> omega
theorem EqL.mono {m : Nat} (h : EqL q μ p d n) (hm : m ≤ n) : EqL q μ p d m := fun i hi h6 => h i (by omega) h6
/-- the leaves from pl on, m of them, go one place on -/
def shL (d pl : Nat) : Nat → (Nat → Int32) → (Nat → Int32)
  | 0, p => p
  | m + 1, p => shL d pl m (sB p d (6 + (pl + m + 1)) (gB p d (6 + (pl + m))))
def inL (p : Nat → Int32) (d pl m : Nat) (x : Int32) (n : Nat) : Nat → Int32 := sB (sB (shL d pl m p) d (6 + pl) x) d 2 (nI (n + 1))
theorem insertLeafC (hd : d < 32) {x : Int32} : ∀ (m fu N : Nat) (μ : Mem) (p : Nat → Int32) (n : Nat), m < fu → RB q μ p → gB p d 0 ≠ 0 → gB p d 1 = 1 → EqL q μ p d N → (N = n + 1 ∨ (N = n ∧ pl + m = n)) → pl + m ≤ n → n < 6 → ∃ μ', f_X1_insertLeaf_b11 q fu (nI d) (nI pl) x (nI n) (nI (pl + m)) μ = some μ' ∧ RB q μ' (inL p d pl m x n) ∧ Fr q μ μ' := by
  intro m
  induction m with
  | zero =>
    intro fu N μ p n hf h h0 h1 hE hN hm hn
    obtain ⟨fu, rfl⟩ : ∃ z, fu = z + 1 := ⟨fu - 1, by omega⟩
    have e0 : nI (pl + 0) = nI pl := rfl
    rw [e0, f_X1_insertLeaf_b11, if_pos (nI_le (a := pl) (b := pl) (Nat.le_refl _) (by omega)), setLeaf_n hd (by omega), Option.bind_some, nI_1, setCell_n hd (by decide), Option.bind_some]
    have e2 : EqL q (mst μ (q + 9) (6 * d + pl) x) (sB p d (6 + pl) x) d (n + 1) := by
      refine (hE.set (i := pl) (by omega) (by omega)).mono ?_
      split <;> omega
    refine ⟨_, rfl, (h.setLeafR hd h1 (by omega)).setSize hd ?_ (by omega) (fun g => ?_) (fun _ => e2), (Fr.mst (by omega) (by omega)).tr (Fr.mst (by omega) (by omega))⟩
    · rw [gB_sB (by omega) (by decide), if_neg (by omega)]
      exact h0
    · rw [gB_sB (by omega) (by decide), if_neg (by omega), h1] at g
      exact absurd g (by decide)
  | succ m ih =>
    intro fu N μ p n hf h h0 h1 hE hN hm hn
    obtain ⟨fu, rfl⟩ : ∃ z, fu = z + 1 := ⟨fu - 1, by omega⟩
    have e1 : nI (pl + (m + 1)) - 1 = nI (pl + m) := nI_pred (pl + m)
    rw [f_X1_insertLeaf_b11, if_neg (nI_ge (by omega) (by omega)), dec1, e1, leafAt_n hd (by omega), Option.bind_some, setLeaf_n hd (by omega), Option.bind_some, hE (pl + m) (by omega) (by omega)]
    obtain ⟨μ', g1, g2, g3⟩ := ih fu (if pl + (m + 1) = N then N + 1 else N) (mst μ (q + 9) (6 * d + (pl + (m + 1))) (gB p d (6 + (pl + m)))) (sB p d (6 + (pl + (m + 1))) (gB p d (6 + (pl + m)))) n (by omega) (h.setLeafR hd h1 (by omega)) (by rw [gB_sB (by omega) (by decide), if_neg (by omega)]; exact h0) (by rw [gB_sB (by omega) (by decide), if_neg (by omega)]; exact h1) (hE.set (by omega) (by omega)) (by split <;> omega) (by omega) hn
    exact ⟨μ', g1, g2, (Fr.mst (by omega) (by omega)).tr g3⟩
theorem insertLeafM (hd : d < 32) {x : Int32} : ∀ (m fu : Nat) (p : Nat → Int32) (n : Nat), m < fu → gB p d 2 = nI n → pl + m ≤ n → n < 6 → f_X7_insertLeaf_b8 q fu (nI d) (nI pl) x (nI (pl + m)) (rst μ (q + 1) p) = some (rst μ (q + 1) (inL p d pl m x n)) := by
  intro m
  induction m with
  | zero =>
    intro fu p n hf h2 hm hn
    obtain ⟨fu, rfl⟩ : ∃ z, fu = z + 1 := ⟨fu - 1, by omega⟩
    have e0 : nI (pl + 0) = nI pl := rfl
    rw [e0, f_X7_insertLeaf_b8, if_pos (nI_le (a := pl) (b := pl) (Nat.le_refl _) (by omega)), show (6 : Int32) + nI pl = nI (6 + pl) by rw [show (6 : Int32) = nI 6 from rfl, nI_add], lay_rr hd (by omega), Option.bind_some, of2 hd, rst_eq, Option.bind_some, gB_sB (by omega) (by decide), if_neg (by omega), h2, nI_1, lay_rc (y := 2) 2 rfl hd (by decide), Option.bind_some]
    rfl
  | succ m ih =>
    intro fu p n hf h2 hm hn
    obtain ⟨fu, rfl⟩ : ∃ z, fu = z + 1 := ⟨fu - 1, by omega⟩
    have e1 : nI (pl + (m + 1)) - 1 = nI (pl + m) := nI_pred (pl + m)
    rw [f_X7_insertLeaf_b8, if_neg (nI_ge (by omega) (by omega)), dec1, e1, leafAtM_n hd (by omega), rst_eq, Option.bind_some, show (6 : Int32) + nI (pl + (m + 1)) = nI (6 + (pl + (m + 1))) by rw [show (6 : Int32) = nI 6 from rfl, nI_add], lay_rr hd (by omega), Option.bind_some, ih fu _ n (by omega) (by rw [gB_sB (by omega) (by decide), if_neg (by omega)]; exact h2) (by omega) hn]
    rfl
end PSET
