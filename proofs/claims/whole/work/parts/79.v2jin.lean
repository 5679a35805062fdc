/-! PURE, the relation of the two sides between calls; saving, undoing, and the seven undoable calls -/
section PJIN
variable {q g a b d s : Nat} {m μ μ' : Mem} {p p' P : Nat → Int32} {n k i j c x len : Nat} {B C : Int} {v : Int32}
def slot (c x i : Nat) : Nat := (x + 4 - c + i) % 4
def sg (μ : Mem) (i : Nat) : Nat → Int32 := fun k => μ 88 (470 * i + k)
def Hist (B : Int) (μ : Mem) (c x : Nat) : Prop := c ≤ 4 ∧ x < 4 ∧ μ 17 1 = nI c ∧ μ 17 2 = nI x ∧ μ 85 3 = nI c ∧ ∀ i, i < c → RG (17 + 2 + 16 * slot c x i) μ (sg μ i) ∧ INV B (sg μ i)
def TextR (μ : Mem) (len : Nat) : Prop := len ≤ 150 ∧ μ 83 1 = nI len ∧ μ 85 5 = nI len ∧ ∀ i, i < len → ∃ k, k < 128 ∧ μ 84 i = nI k ∧ μ 89 i = nI k
def BN (n : Nat) : Int := 200 * (n : Int) + 1
def Jinv (n : Nat) (μ : Mem) (hh : Int64) : Prop := RG 1 μ (μ 86) ∧ INV (BN n) (μ 86) ∧ (∃ c x, Hist (BN n) μ c x) ∧ ∃ len, TextR μ len
theorem BN_succ : BN n + 200 = BN (n + 1) := by
  unfold BN
  omega
theorem BN_lt (h : n < 512) : BN n < 200000 := by
  unfold BN
  omega
theorem Hist.mono (h : Hist B μ c x) (hc : B ≤ C) : Hist C μ c x := ⟨h.1, h.2.1, h.2.2.1, h.2.2.2.1, h.2.2.2.2.1, fun i hi => ⟨(h.2.2.2.2.2 i hi).1, (h.2.2.2.2.2 i hi).2.weaken hc⟩⟩
theorem slot_lt : slot c x i < 4 := Nat.mod_lt _ (by decide)
/-- what the relation rests on -/
theorem Hist.fr (h : Hist B μ c x) (e : ∀ z, 19 ≤ z → z < 83 → μ' z = μ z) (e1 : μ' 17 1 = μ 17 1) (e2 : μ' 17 2 = μ 17 2) (e3 : μ' 85 3 = μ 85 3) (e8 : μ' 88 = μ 88) : Hist B μ' c x := by
  refine ⟨h.1, h.2.1, e1.trans h.2.2.1, e2.trans h.2.2.2.1, e3.trans h.2.2.2.2.1, fun i hi => ?_⟩
  have es : sg μ' i = sg μ i := by
    unfold sg
    rw [e8]
  have hs := slot_lt (c := c) (x := x) (i := i)
  rw [es]
  exact ⟨(h.2.2.2.2.2 i hi).1.fr16 (fun z z1 z2 => e z (by omega) (by omega)), (h.2.2.2.2.2 i hi).2⟩
theorem TextR.fr (h : TextR μ len) (e1 : μ' 83 1 = μ 83 1) (e2 : μ' 85 5 = μ 85 5) (e3 : μ' 84 = μ 84) (e4 : μ' 89 = μ 89) : TextR μ' len := by
  refine ⟨h.1, e1.trans h.2.1, e2.trans h.2.2.1, fun i hi => ?_⟩
  rw [e3, e4]
  exact h.2.2.2 i hi
theorem Jinv.irr {hh hh' : Int64} (h : Jinv n μ hh) (e : ∀ z, z ≠ 83 → z ≠ 85 → z ≠ 87 → z ≠ 90 → z ≠ 91 → μ' z = μ z) (e3 : μ' 85 3 = μ 85 3) (e5 : μ' 85 5 = μ 85 5) (e1 : μ' 83 1 = μ 83 1) : Jinv (n + 1) μ' hh' := by
  obtain ⟨h1, h2, ⟨c, x, h3⟩, len, h4⟩ := h
  have e86 : μ' 86 = μ 86 := e 86 (by decide) (by decide) (by decide) (by decide) (by decide)
  have hb : BN n ≤ BN (n + 1) := by rw [← BN_succ]; omega
  refine ⟨?_, ?_, ⟨c, x, (h3.fr (fun z z1 z2 => e z (by omega) (by omega) (by omega) (by omega) (by omega)) ?_ ?_ e3 ?_).mono hb⟩, len, h4.fr e1 e5 ?_ ?_⟩
  · rw [e86]
    exact h1.fr16 (fun z z1 z2 => e z (by omega) (by omega) (by omega) (by omega) (by omega))
  · rw [e86]
    exact h2.weaken hb
  · rw [e 17 (by decide) (by decide) (by decide) (by decide) (by decide)]
  · rw [e 17 (by decide) (by decide) (by decide) (by decide) (by decide)]
  · exact e 88 (by decide) (by decide) (by decide) (by decide) (by decide)
  · exact e 84 (by decide) (by decide) (by decide) (by decide) (by decide)
  · exact e 89 (by decide) (by decide) (by decide) (by decide) (by decide)
theorem stateAt_n {q x : Nat} (hx : x < 4) : f_X5_stateAt q (nI x) = some (q + 2 + 16 * x) := by
  unfold f_X5_stateAt
  rw [if_neg (by rw [nI_clamp (by omega)]; exact fun z => z.elim (nI_nz (by omega)) (by omega)), nI_clamp (by omega)]
theorem save_e (h : RG 1 μ p) (h6 : p 466 = 0 ∨ p 466 = 1) (hc : c ≤ 4) (hx : x < 4) (e1 : μ 17 1 = nI c) (e2 : μ 17 2 = nI x) : ∃ μ', f_X5_save 17 1 μ = some μ' ∧ RG (17 + 2 + 16 * x) μ' p ∧ (∀ k, k ≠ 17 → (k < 17 + 2 + 16 * x ∨ 17 + 2 + 16 * x + 16 ≤ k) → μ' k = μ k) ∧ μ' 17 1 = nI (min (c + 1) 4) ∧ μ' 17 2 = nI ((x + 1) % 4) := by
  obtain ⟨μ1, a1, a2, a3⟩ := copyFrom_e (d := 17 + 2 + 16 * x) (s := 1) (Or.inr (by omega)) h h6
  have r17 : μ1 17 = μ 17 := a3 17 (by omega)
  have hm : (if 4 < nI c + 1 then (4 : Int32) else nI c + 1) = nI (min (c + 1) 4) := by
    rw [nI_1]
    by_cases c1 : c = 4
    · rw [c1]
      rfl
    · rw [if_neg (show ¬ (4 : Int32) < nI (c + 1) from nI_nlt (a := 4) (by omega) (by omega)), show min (c + 1) 4 = c + 1 by omega]
  have fin : ∀ s0 : Int32, s0 = nI ((x + 1) % 4) → ∃ μ', f_X5_save_b39 17 1 s0 μ1 = some μ' ∧ RG (17 + 2 + 16 * x) μ' p ∧ (∀ k, k ≠ 17 → (k < 17 + 2 + 16 * x ∨ 17 + 2 + 16 * x + 16 ≤ k) → μ' k = μ k) ∧ μ' 17 1 = nI (min (c + 1) 4) ∧ μ' 17 2 = nI ((x + 1) % 4) := fun s0 hs0 => by
    refine ⟨mst (mst μ1 17 2 s0) 17 1 (nI (min (c + 1) 4)), ?_, a2.fr16 (fun z z1 z2 => by rw [mst_ne (by omega), mst_ne (by omega)]), fun k k1 k2 => by rw [mst_ne k1, mst_ne k1]; exact a3 k k2, ?_, ?_⟩
    · unfold f_X5_save_b39 f_X5_save_b56 pf
      rw [Option.bind_some, mst_eq, upd_ne (by decide), r17, e1, hm, Option.bind_some]
    · rw [mst_eq, upd_eq]
    · rw [mst_eq, upd_ne (by decide), mst_eq, upd_eq, hs0]
  unfold f_X5_save
  rw [e2, stateAt_n hx, Option.bind_some, a1, Option.bind_some, r17, e2, nI_1]
  by_cases c3 : x = 3
  · rw [if_pos (show (4 : Int32) ≤ nI (x + 1) from lI (c := 4) 4 _ rfl (by omega) (by omega))]
    exact fin 0 (by rw [c3]; rfl)
  · rw [if_neg (show ¬ (4 : Int32) ≤ nI (x + 1) from nlI (c := 4) 4 _ rfl (by omega) (by omega))]
    exact fin _ (by rw [show (x + 1) % 4 = x + 1 by omega])
theorem nI_470 {c : Nat} : (470 : Int32) * nI c = nI (470 * c) := by rw [show (470 : Int32) = nI 470 from rfl, nI_mul]
theorem b66_e (hc : c < 4) (e3 : μ q 3 = nI c) : f_X7_ends_b66 q v μ = some (v, mst (rst μ (q + 3) (fun i => if 470 * c ≤ i ∧ i < 470 * c + 470 then μ (q + 2) (0 + (i - 470 * c)) else μ (q + 3) i)) q 3 (nI (c + 1))) := by
  unfold f_X7_ends_b66 pf
  rw [e3, nI_470, bring_n (x1 := 0) (A1 := 0) (A3 := 470 * c) rfl rfl (by omega) (by omega) (by omega) (by decide) (by decide), Option.bind_some, rst_ne (show q ≠ q + 3 by omega), e3, nI_1, Option.bind_some]
theorem ends_e (hc : c ≤ 4) (e3 : μ q 3 = nI c) (e7 : μ q 7 = 0) : ∃ μ', f_X7_ends q v μ = some (v, μ') ∧ μ' q 6 = 0 ∧ μ' q 3 = nI (min (c + 1) 4) ∧ (∀ j, j ≠ 3 → j ≠ 6 → μ' q j = μ q j) ∧ (∀ z, z ≠ q → z ≠ q + 3 → μ' z = μ z) ∧ ∀ i k, i < min (c + 1) 4 → k < 470 → μ' (q + 3) (470 * i + k) = if i + 1 = min (c + 1) 4 then μ (q + 2) k else if c = 4 then μ (q + 3) (470 * (i + 1) + k) else μ (q + 3) (470 * i + k) := by
  have h7 : mst μ q 6 (μ q 7) q 7 = 0 := by rw [mst_eq, upd_ne (by decide)]; exact e7
  have h3 : mst μ q 6 (μ q 7) q 3 = nI c := by rw [mst_eq, upd_ne (by decide)]; exact e3
  unfold f_X7_ends
  rw [show pf μ q 6 (μ q 7) = some (mst μ q 6 (μ q 7)) from rfl, Option.bind_some, h7, if_pos rfl, h3]
  by_cases c4 : c = 4
  · rw [if_pos (show nI c = (4 : Int32) from congrArg nI c4)]
    have e := ends_b27 (q := q) (v := v) 1410 0 FU (mst μ q 6 (μ q 7)) (by omega) (by decide)
    rw [nI_0] at e
    obtain ⟨M, eM⟩ : ∃ M, M = mst (rst (mst μ q 6 (μ q 7)) (q + 3) (fun i => if 0 ≤ i ∧ i < 1410 then mst μ q 6 (μ q 7) (q + 3) (i + 470) else mst μ q 6 (μ q 7) (q + 3) i)) q 3 (nI 3) := ⟨_, rfl⟩
    have e66 := b66_e (q := q) (v := v) (μ := M) (c := 3) (by decide) (by rw [eM, mst_eq, upd_eq])
    have m2 : M (q + 2) = μ (q + 2) := by rw [eM, mst_ne (by omega), rst_ne (by omega), mst_ne (by omega)]
    have m3 : ∀ i, M (q + 3) i = if 0 ≤ i ∧ i < 1410 then μ (q + 3) (i + 470) else μ (q + 3) i := fun i => by
      rw [eM, mst_ne (by omega), rst_eq, mst_ne (by omega)]
    refine ⟨mst (rst M (q + 3) (fun i => if 470 * 3 ≤ i ∧ i < 470 * 3 + 470 then M (q + 2) (0 + (i - 470 * 3)) else M (q + 3) i)) q 3 (nI (3 + 1)), ?_, ?_, ?_, fun j j1 j2 => ?_, fun z z1 z2 => ?_, fun i k hi hk => ?_⟩
    · rw [e, h3, show nI c - 1 = nI 3 by rw [c4]; rfl, show ∀ (A : Mem), pf A q 3 (nI 3) = some (mst A q 3 (nI 3)) from fun _ => rfl, Option.bind_some, ← eM, e66]
    · rw [mst_eq, upd_ne (by decide), rst_ne (by omega), eM, mst_eq, upd_ne (by decide), rst_ne (by omega), mst_eq, upd_eq, e7]
    · rw [mst_eq, upd_eq, c4]
      rfl
    · rw [mst_eq, upd_ne j1, rst_ne (by omega), eM, mst_eq, upd_ne j1, rst_ne (by omega), mst_eq, upd_ne j2]
    · rw [mst_ne z1, rst_ne z2, eM, mst_ne z1, rst_ne z2, mst_ne z1]
    · have hi4 : i < 4 := by omega
      rw [mst_ne (by omega), rst_eq, m2]
      by_cases c5 : i = 3
      · rw [if_pos (show 470 * 3 ≤ 470 * i + k ∧ 470 * i + k < 470 * 3 + 470 by omega), if_pos (show i + 1 = min (c + 1) 4 by omega)]
        rw [show 0 + (470 * i + k - 470 * 3) = k by omega]
      · rw [if_neg (show ¬ (470 * 3 ≤ 470 * i + k ∧ 470 * i + k < 470 * 3 + 470) by omega), if_neg (show ¬ i + 1 = min (c + 1) 4 by omega), if_pos c4, m3, if_pos (show 0 ≤ 470 * i + k ∧ 470 * i + k < 1410 by omega)]
        rw [show 470 * i + k + 470 = 470 * (i + 1) + k by omega]
  · rw [if_neg (show ¬ nI c = (4 : Int32) from fun z => c4 (nI_inj (b := 4) (by omega) (by omega) z)), b66_e (by omega) h3]
    refine ⟨_, rfl, ?_, ?_, fun j j1 j2 => ?_, fun z z1 z2 => ?_, fun i k hi hk => ?_⟩
    · rw [mst_eq, upd_ne (by decide), rst_ne (by omega), mst_eq, upd_eq, e7]
    · rw [mst_eq, upd_eq, show min (c + 1) 4 = c + 1 by omega]
    · rw [mst_eq, upd_ne j1, rst_ne (by omega), mst_eq, upd_ne j2]
    · rw [mst_ne z1, rst_ne z2, mst_ne z1]
    · rw [mst_ne (by omega), rst_eq, mst_ne (by omega), mst_ne (by omega)]
      by_cases c5 : i = c
      · rw [if_pos (show 470 * c ≤ 470 * i + k ∧ 470 * i + k < 470 * c + 470 by omega), if_pos (show i + 1 = min (c + 1) 4 by omega)]
        congr 1
        omega
      · rw [if_neg (show ¬ (470 * c ≤ 470 * i + k ∧ 470 * i + k < 470 * c + 470) by omega), if_neg (show ¬ i + 1 = min (c + 1) 4 by omega), if_neg c4]
theorem hold_e : f_X7_hold q μ = some (rst (mst μ q 7 0) (q + 2) (fun i => if 0 ≤ i ∧ i < 0 + 470 then μ (q + 1) (0 + (i - 0)) else μ (q + 2) i)) := by
  unfold f_X7_hold
  rw [show pf μ q 7 0 = some (mst μ q 7 0) from rfl, Option.bind_some, bring_n (x1 := 0) (x3 := 0) (A1 := 0) (A3 := 0) rfl rfl (by omega) (by omega) (by omega) (by decide) (by decide), Option.bind_some, mst_ne (by omega), mst_ne (by omega)]
theorem Hist.push (h : Hist B μ c x) (hp : INV B p) (hx : RG (17 + 2 + 16 * x) μ' p) (hr : ∀ j, j < 4 → j ≠ x → ∀ z, 17 + 2 + 16 * j ≤ z → z < 17 + 2 + 16 * j + 16 → μ' z = μ z) (e1 : μ' 17 1 = nI (min (c + 1) 4)) (e2 : μ' 17 2 = nI ((x + 1) % 4)) (e3 : μ' 85 3 = nI (min (c + 1) 4)) (hs : ∀ i k, i < min (c + 1) 4 → k < 470 → μ' 88 (470 * i + k) = if i + 1 = min (c + 1) 4 then p k else if c = 4 then μ 88 (470 * (i + 1) + k) else μ 88 (470 * i + k)) : Hist B μ' (min (c + 1) 4) ((x + 1) % 4) := by
  obtain ⟨h1, h2, h3, h4, h5, h6⟩ := h
  refine ⟨by omega, Nat.mod_lt _ (by decide), e1, e2, e3, fun i hi => ?_⟩
  by_cases c1 : i + 1 = min (c + 1) 4
  · have es : slot (min (c + 1) 4) ((x + 1) % 4) i = x := by
      unfold slot
      omega
    have ep : ∀ k, k < 470 → sg μ' i k = p k := fun k hk => by
      have e := hs i k hi hk
      rw [if_pos c1] at e
      exact e
    rw [es]
    exact ⟨hx.cg470 ep, hp.cg470 ep⟩
  · by_cases c4 : c = 4
    · have es : slot (min (c + 1) 4) ((x + 1) % 4) i = slot c x (i + 1) := by
        unfold slot
        omega
      have hne : slot c x (i + 1) ≠ x := by
        unfold slot
        omega
      have ep : ∀ k, k < 470 → sg μ' i k = sg μ (i + 1) k := fun k hk => by
        have e := hs i k hi hk
        rw [if_neg c1, if_pos c4] at e
        exact e
      obtain ⟨g1, g2⟩ := h6 (i + 1) (by omega)
      rw [es]
      exact ⟨(g1.fr16 (hr _ slot_lt hne)).cg470 ep, g2.cg470 ep⟩
    · have es : slot (min (c + 1) 4) ((x + 1) % 4) i = slot c x i := by
        unfold slot
        omega
      have hne : slot c x i ≠ x := by
        unfold slot
        omega
      have ep : ∀ k, k < 470 → sg μ' i k = sg μ i k := fun k hk => by
        have e := hs i k hi hk
        rw [if_neg c1, if_neg c4] at e
        exact e
      obtain ⟨g1, g2⟩ := h6 i (by omega)
      rw [es]
      exact ⟨(g1.fr16 (hr _ slot_lt hne)).cg470 ep, g2.cg470 ep⟩
/-- the model's undoable call: hold, do, end -/
def Mop (MD : Nat → Mem → Option (Int32 × Mem)) (q : Nat) (μ : Mem) : Option (Int32 × Mem) := (f_X7_hold q μ).bind (fun μ1 => bn2 (MD q μ1) (fun v2 μ3 => bn2 (f_X7_ends q v2 μ3) (fun v4 μ5 => (some (v4, μ5)))))
def RNZ (R : Int32 → Int32 → Prop) : Prop := ∀ kc km, R kc km → km ≠ 0
theorem RNZ3 : RNZ R3 := fun kc km h => by rw [h.2]; decide
theorem RNZ23 : RNZ R23 := fun kc km h => by rcases h with h | h <;> rw [h.2] <;> decide
theorem RNZ13 : RNZ R13 := fun kc km h => by rcases h with h | h <;> rw [h.2] <;> decide
/-- the class's and the model's last step of an undoable call, behind the save -/
theorem J_push {hh : Int64} {μ3 μ5 : Mem} (hB : BN n + 200 = BN (n + 1)) (hH : Hist (BN n) μ c x) (hT : TextR μ len) (hI : INV (BN n) (μ 86)) (a2 : RG (17 + 2 + 16 * x) μ3 (μ 86)) (a3 : ∀ k, k ≠ 17 → (k < 17 + 2 + 16 * x ∨ 17 + 2 + 16 * x + 16 ≤ k) → μ3 k = μ k) (a4 : μ3 17 1 = nI (min (c + 1) 4)) (a5 : μ3 17 2 = nI ((x + 1) % 4)) (b3 : ∀ z, (z < 1 ∨ (17 ≤ z ∧ z ≠ 83)) → μ5 z = μ3 z) (b4 : μ5 83 1 = μ3 83 1) {M : Mem} (m : ∀ z, z ≠ 85 → z ≠ 86 → z ≠ 87 → z ≠ 90 → z ≠ 91 → M z = μ5 z) (m7 : ∀ k, k < 470 → M 87 k = μ 86 k) (m3 : M 85 3 = nI c) (m5 : M 85 5 = μ 85 5) (m0 : M 85 7 = 0) (hG : RG 1 M (M 86)) (hI2 : INV (BN (n + 1)) (M 86)) : ∃ μ', f_X7_ends 85 v M = some (v, μ') ∧ μ' 85 6 = 0 ∧ Jinv (n + 1) μ' hh := by
  obtain ⟨μ', e1, e2, e3, e4, e5, e6⟩ := ends_e (q := 85) (v := v) (μ := M) (c := c) hH.1 m3 m0
  have f : ∀ z, z ≠ 85 → z ≠ 88 → μ' z = M z := fun z z1 z2 => e5 z z1 z2
  have hx := hH.2.1
  have old : ∀ z, 17 ≤ z → z ≠ 83 → z ≠ 85 → z ≠ 86 → z ≠ 87 → z ≠ 88 → z ≠ 90 → z ≠ 91 → μ' z = μ3 z := fun z z1 z2 z3 z4 z5 z6 z7 z8 => (f z z3 z6).trans ((m z z3 z4 z5 z7 z8).trans (b3 z (Or.inr ⟨z1, z2⟩)))
  have e86 : μ' 86 = M 86 := f 86 (by decide) (by decide)
  refine ⟨μ', e1, e2, ?_, ?_, ⟨min (c + 1) 4, (x + 1) % 4, Hist.push (p := μ 86) (hH.mono (by omega)) (hI.weaken (by omega)) (a2.fr16 (fun z z1 z2 => old z (by omega) (by omega) (by omega) (by omega) (by omega) (by omega) (by omega) (by omega))) (fun j hj hne z z1 z2 => (old z (by omega) (by omega) (by omega) (by omega) (by omega) (by omega) (by omega) (by omega)).trans (a3 z (by omega) (by omega))) ?_ ?_ e3 (fun i k hi hk => ?_)⟩, len, hT.fr ?_ ?_ ?_ ?_⟩
  · rw [e86]
    exact hG.fr16 (fun z z1 z2 => f z (by omega) (by omega))
  · rw [e86]
    exact hI2
  · rw [old 17 (by decide) (by decide) (by decide) (by decide) (by decide) (by decide) (by decide) (by decide)]
    exact a4
  · rw [old 17 (by decide) (by decide) (by decide) (by decide) (by decide) (by decide) (by decide) (by decide)]
    exact a5
  · have e := e6 i k hi hk
    have m88 : ∀ j, M (85 + 3) j = μ 88 j := fun j => by
      have z1 : M 88 = μ5 88 := m 88 (by decide) (by decide) (by decide) (by decide) (by decide)
      have z2 : μ5 88 = μ3 88 := b3 88 (Or.inr ⟨by decide, by decide⟩)
      have z3 : μ3 88 = μ 88 := a3 88 (by decide) (by omega)
      exact congrFun (z1.trans (z2.trans z3)) j
    rw [m88, m88] at e
    refine Eq.trans (show μ' 88 (470 * i + k) = _ from e) ?_
    rw [show M (85 + 2) k = μ 86 k from m7 k hk]
  · rw [f 83 (by decide) (by decide), m 83 (by decide) (by decide) (by decide) (by decide) (by decide), b4, a3 83 (by decide) (by omega)]
  · rw [e4 5 (by decide) (by decide)]
    exact m5
  · rw [old 84 (by decide) (by decide) (by decide) (by decide) (by decide) (by decide) (by decide) (by decide)]
    exact a3 84 (by decide) (by omega)
  · rw [old 89 (by decide) (by decide) (by decide) (by decide) (by decide) (by decide) (by decide) (by decide)]
    exact a3 89 (by decide) (by omega)
theorem hold85 {μ : Mem} : ∃ M, f_X7_hold 85 μ = some M ∧ (∀ z, z ≠ 85 → z ≠ 87 → M z = μ z) ∧ (∀ k, k < 470 → M 87 k = μ 86 k) ∧ M 85 7 = 0 ∧ ∀ j, j ≠ 7 → M 85 j = μ 85 j := by
  refine ⟨_, hold_e, fun z z1 z2 => ?_, fun k hk => ?_, ?_, fun j hj => ?_⟩
  · rw [rst_ne (show z ≠ 85 + 2 from z2), mst_ne z1]
  · show rst (mst μ 85 7 0) (85 + 2) _ (85 + 2) k = _
    rw [rst_eq, if_pos (show 0 ≤ k ∧ k < 0 + 470 by omega)]
    show μ 86 (0 + (k - 0)) = μ 86 k
    congr 1
    omega
  · rw [rst_ne (by decide), mst_eq, upd_eq]
  · rw [rst_ne (by decide), mst_eq, upd_ne hj]
theorem op_do {hh : Int64} {FC : Mem → Option Int32} {PC : Mem → Option (Int32 × Mem)} {MD : Nat → Mem → Option (Int32 × Mem)} {R : Int32 → Int32 → Prop} (hdo : ∀ (μ : Mem) (p : Nat → Int32), RG 1 μ p → INV (BN n) p → DoS FC PC MD R 1 μ p (BN (n + 1))) (hR : RNZ R) (hJ : Jinv n μ hh) :
    (FC μ = some 0 ∧ ∃ (μ3 : Mem) (v : Int32) (μ5 μ' : Mem), f_X5_save 17 1 μ = some μ3 ∧ PC μ3 = some (v, μ5) ∧ Mop MD 85 μ5 = some (v, μ') ∧ μ' 85 6 = 0 ∧ Jinv (n + 1) μ' hh) ∨
    (∃ kc km : Int32, R kc km ∧ FC μ = some kc ∧ ∃ (r : Int32) (μ' : Mem), Mop MD 85 μ = some (r, μ') ∧ μ' 85 6 = km ∧ Jinv (n + 1) μ' hh) := by
  have hJ0 := hJ
  obtain ⟨hG, hI, ⟨c, x, hH⟩, len, hT⟩ := hJ0
  rcases hdo μ (μ 86) hG hI with ⟨v, p', μx, y1, y2, y3, y4, y5, y6⟩ | ⟨kc, km, y1, y2, y3⟩
  · refine Or.inl ⟨y1, ?_⟩
    obtain ⟨μ3, a1, a2, a3, a4, a5⟩ := save_e hG hI.2.2.2.2.1 hH.1 hH.2.1 hH.2.2.1 hH.2.2.2.1
    have hG3 : RG 1 μ3 (μ 86) := hG.fr16 (fun z z1 z2 => a3 z (by omega) (by omega))
    rcases hdo μ3 (μ 86) hG3 hI with ⟨v, p', μ5, z1, z2, z3, z4, z5, z6⟩ | ⟨kc, km, z1, z2, z3⟩
    · obtain ⟨M1, h1, h2, h3, h4, h5⟩ := hold85 (μ := μ5)
      have hx := hH.2.1
      have m5 : ∀ z, 17 ≤ z → μ5 z = μ3 z := fun z hz => z4 z (by omega)
      have m83 : ∀ z, 83 ≤ z → μ5 z = μ z := fun z hz => (m5 z (by omega)).trans (a3 z (by omega) (by omega))
      have e86 : M1 86 = μ 86 := (h2 86 (by decide) (by decide)).trans (m83 86 (by decide))
      have e85 : μ5 85 = μ 85 := m83 85 (by decide)
      obtain ⟨f', z7⟩ := z6 85 M1 (M1 90)
      have er : rst (rst M1 (85 + 5) (M1 90)) (85 + 1) (μ 86) = M1 := by
        have e1 : rst M1 (85 + 5) (M1 90) = M1 := rst_self (k := 90)
        rw [e1, ← e86]
        exact rst_self (k := 86)
      rw [er] at z7
      obtain ⟨M2, eM2⟩ : ∃ M2, M2 = rst (rst M1 (85 + 5) f') (85 + 1) p' := ⟨_, rfl⟩
      rw [← eM2] at z7
      have k86 : M2 86 = p' := by
        rw [eM2]
        exact rst_eq (k := 86)
      have ko : ∀ z, z ≠ 86 → z ≠ 90 → M2 z = M1 z := fun z k1 k2 => by
        rw [eM2, rst_ne (show z ≠ 85 + 1 from k1), rst_ne (show z ≠ 85 + 5 from k2)]
      obtain ⟨μ', j1, j2, j3⟩ := J_push (hh := hh) (v := v) (M := M2) (μ := μ) (μ3 := μ3) (μ5 := μ5) BN_succ hH hT hI a2 a3 a4 a5 (fun z hz => z4 z (by omega)) (by rw [m5 83 (by decide)]) (fun z n1 n2 n3 n4 n5 => (ko z n2 n4).trans (h2 z n1 n3)) (fun k hk => by rw [ko 87 (by decide) (by decide), h3 k hk, m83 86 (by decide)]) (by rw [ko 85 (by decide) (by decide), h5 3 (by decide), e85]; exact hH.2.2.2.2.1) (by rw [ko 85 (by decide) (by decide), h5 5 (by decide), e85]) (by rw [ko 85 (by decide) (by decide)]; exact h4) (by rw [k86]; exact z3.fr16 (fun z n1 n2 => (ko z (by omega) (by omega)).trans (h2 z (by omega) (by omega)))) (by rw [k86]; exact z5)
      refine ⟨μ3, v, μ5, μ', a1, z2, ?_, j2, j3⟩
      unfold Mop
      rw [h1, Option.bind_some, z7, bn2_some, j1, bn2_some]
    · exfalso
      obtain ⟨f', y7⟩ := y6 0 zμ (fun _ => 0)
      have e := z3 0 (rst zμ (0 + 5) (fun _ => 0))
      rw [y7] at e
      have e2 := (Prod.mk.inj (Option.some.inj e)).2
      have e3 := congrFun (congrFun e2 0) 7
      rw [mst_eq, upd_eq, rst_ne (by decide), rst_ne (by decide)] at e3
      exact hR kc km z1 e3.symm
  · refine Or.inr ⟨kc, km, y1, y2, ?_⟩
    obtain ⟨M1, h1, h2, h3, h4, h5⟩ := hold85 (μ := μ)
    have e86 : M1 86 = μ 86 := h2 86 (by decide) (by decide)
    have er : rst M1 (85 + 1) (μ 86) = M1 := by
      rw [← e86]
      exact rst_self (k := 86)
    have y4 := y3 85 M1
    rw [er] at y4
    have hk : mst M1 85 7 km 85 7 = km := by rw [mst_eq, upd_eq]
    refine ⟨0, mst (mst M1 85 7 km) 85 6 km, ?_, by rw [mst_eq, upd_eq], hJ.irr (fun z z1 z2 z3 z4 z5 => by rw [mst_ne z2, mst_ne z2, h2 z z2 z3]) ?_ ?_ ?_⟩
    · unfold Mop f_X7_ends
      rw [h1, Option.bind_some, y4, bn2_some, hk, show pf (mst M1 85 7 km) 85 6 km = some (mst (mst M1 85 7 km) 85 6 km) from rfl, Option.bind_some, show mst (mst M1 85 7 km) 85 6 km 85 7 = km by rw [mst_eq, upd_ne (by decide), hk], if_neg (hR kc km y1), bn2_some]
    · rw [mst_eq, upd_ne (by decide), mst_eq, upd_ne (by decide), h5 3 (by decide)]
    · rw [mst_eq, upd_ne (by decide), mst_eq, upd_ne (by decide), h5 5 (by decide)]
    · rw [mst_ne (by decide), mst_ne (by decide), h2 83 (by decide) (by decide)]
end PJIN
