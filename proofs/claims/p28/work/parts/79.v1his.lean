/-! PURE, gardens copied -/
section PHIS
variable {q g a b d s : Nat} {m μ μ' : Mem} {p p' P : Nat → Int32} {n k i j : Nat} {B : Int}
theorem copyRow_b2 : ∀ (n' k fu : Nat) (μ : Mem), k + n' = n → n' < fu → n < 2 ^ 31 → a ≠ b → f_X6_copyRow_b2 a n b n fu (nI k) μ = some (rst μ b (fun i => if k ≤ i ∧ i < n then μ a i else μ b i)) := by
  intro n'
  induction n' with
  | zero =>
    intro k fu μ hk hf hn hne
    obtain ⟨fu, rfl⟩ : ∃ z, fu = z + 1 := ⟨fu - 1, by omega⟩
    rw [f_X6_copyRow_b2, if_pos (nI_le (by omega) (by omega))]
    have e : (fun i => if k ≤ i ∧ i < n then μ a i else μ b i) = μ b := by
      funext i
      rw [if_neg (by omega)]
    rw [e, rst_self]
    rfl
  | succ n' ih =>
    intro k fu μ hk hf hn hne
    obtain ⟨fu, rfl⟩ : ∃ z, fu = z + 1 := ⟨fu - 1, by omega⟩
    rw [f_X6_copyRow_b2, if_neg (nI_ge (by omega) (by omega)), if_neg (nI_ge (by omega) (by omega)), rd_n (by omega) hn, Option.bind_some, wr_n (by omega) hn, Option.bind_some, nI_1, ih (k + 1) fu _ (by omega) (by omega) hn hne, mst_rst, rst_rst, rst_eq, rst_ne hne]
    congr 2
    funext i
    by_cases c1 : k + 1 ≤ i ∧ i < n
    · rw [if_pos c1, if_pos (show k ≤ i ∧ i < n by omega)]
    · rw [if_neg c1]
      by_cases c2 : i = k
      · rw [c2, upd_eq, if_pos (show k ≤ k ∧ k < n by omega)]
      · rw [upd_ne c2, if_neg (show ¬ (k ≤ i ∧ i < n) by omega)]
theorem copyRow_e (hne : a ≠ b) (hn : n < 4096) : ∃ μ', f_X6_copyRow a n b n μ = some μ' ∧ (∀ z, z ≠ b → μ' z = μ z) ∧ ∀ i, i < n → μ' b i = μ a i := by
  have e := copyRow_b2 (n := n) (a := a) (b := b) n 0 FU μ (by omega) (by unfold FU; omega) (by omega) hne
  rw [nI_0] at e
  refine ⟨_, e, fun z hz => rst_ne hz, fun i hi => ?_⟩
  rw [rst_eq, if_pos (show 0 ≤ i ∧ i < n by omega)]
theorem copyFrom_e (hds : d + 16 ≤ s ∨ s + 16 ≤ d) (h : RG s μ p) (h6 : p 466 = 0 ∨ p 466 = 1) : ∃ μ', f_X4_copyFrom d s μ = some μ' ∧ RG d μ' p ∧ ∀ k, (k < d ∨ d + 16 ≤ k) → μ' k = μ k := by
  obtain ⟨μ1, a1, b1, c1⟩ := copyRow_e (μ := μ) (a := s + 1 + 1) (b := d + 1 + 1) (n := 32) (by omega) (by decide)
  obtain ⟨μ2, a2, b2, c2⟩ := copyRow_e (μ := μ1) (a := s + 1 + 2) (b := d + 1 + 2) (n := 32) (by omega) (by decide)
  obtain ⟨μ3, a3, b3, c3⟩ := copyRow_e (μ := μ2) (a := s + 1 + 3) (b := d + 1 + 3) (n := 32) (by omega) (by decide)
  obtain ⟨μ4, a4, b4, c4⟩ := copyRow_e (μ := μ3) (a := s + 1 + 4) (b := d + 1 + 4) (n := 32) (by omega) (by decide)
  obtain ⟨μ5, a5, b5, c5⟩ := copyRow_e (μ := μ4) (a := s + 1 + 5) (b := d + 1 + 5) (n := 32) (by omega) (by decide)
  obtain ⟨μ6, a6, b6, c6⟩ := copyRow_e (μ := μ5) (a := s + 1 + 6) (b := d + 1 + 6) (n := 32) (by omega) (by decide)
  obtain ⟨μ7, a7, b7, c7⟩ := copyRow_e (μ := μ6) (a := s + 1 + 7) (b := d + 1 + 7) (n := 160) (by omega) (by decide)
  obtain ⟨μ8, a8, b8, c8⟩ := copyRow_e (μ := μ7) (a := s + 1 + 8) (b := d + 1 + 8) (n := 160) (by omega) (by decide)
  obtain ⟨μ9, a9, b9, c9⟩ := copyRow_e (μ := μ8) (a := s + 1 + 9) (b := d + 1 + 9) (n := 192) (by omega) (by decide)
  obtain ⟨μ10, a10, b10, c10⟩ := copyRow_e (μ := μ9) (a := s + 11) (b := d + 11) (n := 2) (by omega) (by decide)
  obtain ⟨μ11, a11, b11, c11⟩ := copyRow_e (μ := μ10) (a := s + 12) (b := d + 12) (n := 2) (by omega) (by decide)
  obtain ⟨μ12, a12, b12, c12⟩ := copyRow_e (μ := μ11) (a := s + 13) (b := d + 13) (n := 2) (by omega) (by decide)
  obtain ⟨μ13, a13, b13, c13⟩ := copyRow_e (μ := μ12) (a := s + 14) (b := d + 14) (n := 4) (by omega) (by decide)
  obtain ⟨μ14, a14, b14, c14⟩ := copyRow_e (μ := μ13) (a := s + 15) (b := d + 15) (n := 4) (by omega) (by decide)
  have r1 : ∀ i, i < 32 → μ14 (d + 1 + 1) i = μ (s + 1 + 1) i := fun i hi => by
    rw [b14 _ (by omega), b13 _ (by omega), b12 _ (by omega), b11 _ (by omega), b10 _ (by omega), b9 _ (by omega), b8 _ (by omega), b7 _ (by omega), b6 _ (by omega), b5 _ (by omega), b4 _ (by omega), b3 _ (by omega), b2 _ (by omega), c1 i hi]
  have r2 : ∀ i, i < 32 → μ14 (d + 1 + 2) i = μ (s + 1 + 2) i := fun i hi => by
    rw [b14 _ (by omega), b13 _ (by omega), b12 _ (by omega), b11 _ (by omega), b10 _ (by omega), b9 _ (by omega), b8 _ (by omega), b7 _ (by omega), b6 _ (by omega), b5 _ (by omega), b4 _ (by omega), b3 _ (by omega), c2 i hi, b1 _ (by omega)]
  have r3 : ∀ i, i < 32 → μ14 (d + 1 + 3) i = μ (s + 1 + 3) i := fun i hi => by
    rw [b14 _ (by omega), b13 _ (by omega), b12 _ (by omega), b11 _ (by omega), b10 _ (by omega), b9 _ (by omega), b8 _ (by omega), b7 _ (by omega), b6 _ (by omega), b5 _ (by omega), b4 _ (by omega), c3 i hi, b2 _ (by omega), b1 _ (by omega)]
  have r4 : ∀ i, i < 32 → μ14 (d + 1 + 4) i = μ (s + 1 + 4) i := fun i hi => by
    rw [b14 _ (by omega), b13 _ (by omega), b12 _ (by omega), b11 _ (by omega), b10 _ (by omega), b9 _ (by omega), b8 _ (by omega), b7 _ (by omega), b6 _ (by omega), b5 _ (by omega), c4 i hi, b3 _ (by omega), b2 _ (by omega), b1 _ (by omega)]
  have r5 : ∀ i, i < 32 → μ14 (d + 1 + 5) i = μ (s + 1 + 5) i := fun i hi => by
    rw [b14 _ (by omega), b13 _ (by omega), b12 _ (by omega), b11 _ (by omega), b10 _ (by omega), b9 _ (by omega), b8 _ (by omega), b7 _ (by omega), b6 _ (by omega), c5 i hi, b4 _ (by omega), b3 _ (by omega), b2 _ (by omega), b1 _ (by omega)]
  have r6 : ∀ i, i < 32 → μ14 (d + 1 + 6) i = μ (s + 1 + 6) i := fun i hi => by
    rw [b14 _ (by omega), b13 _ (by omega), b12 _ (by omega), b11 _ (by omega), b10 _ (by omega), b9 _ (by omega), b8 _ (by omega), b7 _ (by omega), c6 i hi, b5 _ (by omega), b4 _ (by omega), b3 _ (by omega), b2 _ (by omega), b1 _ (by omega)]
  have r7 : ∀ i, i < 160 → μ14 (d + 1 + 7) i = μ (s + 1 + 7) i := fun i hi => by
    rw [b14 _ (by omega), b13 _ (by omega), b12 _ (by omega), b11 _ (by omega), b10 _ (by omega), b9 _ (by omega), b8 _ (by omega), c7 i hi, b6 _ (by omega), b5 _ (by omega), b4 _ (by omega), b3 _ (by omega), b2 _ (by omega), b1 _ (by omega)]
  have r8 : ∀ i, i < 160 → μ14 (d + 1 + 8) i = μ (s + 1 + 8) i := fun i hi => by
    rw [b14 _ (by omega), b13 _ (by omega), b12 _ (by omega), b11 _ (by omega), b10 _ (by omega), b9 _ (by omega), c8 i hi, b7 _ (by omega), b6 _ (by omega), b5 _ (by omega), b4 _ (by omega), b3 _ (by omega), b2 _ (by omega), b1 _ (by omega)]
  have r9 : ∀ i, i < 192 → μ14 (d + 1 + 9) i = μ (s + 1 + 9) i := fun i hi => by
    rw [b14 _ (by omega), b13 _ (by omega), b12 _ (by omega), b11 _ (by omega), b10 _ (by omega), c9 i hi, b8 _ (by omega), b7 _ (by omega), b6 _ (by omega), b5 _ (by omega), b4 _ (by omega), b3 _ (by omega), b2 _ (by omega), b1 _ (by omega)]
  have r10 : ∀ i, i < 2 → μ14 (d + 11) i = μ (s + 11) i := fun i hi => by
    rw [b14 _ (by omega), b13 _ (by omega), b12 _ (by omega), b11 _ (by omega), c10 i hi, b9 _ (by omega), b8 _ (by omega), b7 _ (by omega), b6 _ (by omega), b5 _ (by omega), b4 _ (by omega), b3 _ (by omega), b2 _ (by omega), b1 _ (by omega)]
  have r11 : ∀ i, i < 2 → μ14 (d + 12) i = μ (s + 12) i := fun i hi => by
    rw [b14 _ (by omega), b13 _ (by omega), b12 _ (by omega), c11 i hi, b10 _ (by omega), b9 _ (by omega), b8 _ (by omega), b7 _ (by omega), b6 _ (by omega), b5 _ (by omega), b4 _ (by omega), b3 _ (by omega), b2 _ (by omega), b1 _ (by omega)]
  have r12 : ∀ i, i < 2 → μ14 (d + 13) i = μ (s + 13) i := fun i hi => by
    rw [b14 _ (by omega), b13 _ (by omega), c12 i hi, b11 _ (by omega), b10 _ (by omega), b9 _ (by omega), b8 _ (by omega), b7 _ (by omega), b6 _ (by omega), b5 _ (by omega), b4 _ (by omega), b3 _ (by omega), b2 _ (by omega), b1 _ (by omega)]
  have r13 : ∀ i, i < 4 → μ14 (d + 14) i = μ (s + 14) i := fun i hi => by
    rw [b14 _ (by omega), c13 i hi, b12 _ (by omega), b11 _ (by omega), b10 _ (by omega), b9 _ (by omega), b8 _ (by omega), b7 _ (by omega), b6 _ (by omega), b5 _ (by omega), b4 _ (by omega), b3 _ (by omega), b2 _ (by omega), b1 _ (by omega)]
  have r14 : ∀ i, i < 4 → μ14 (d + 15) i = μ (s + 15) i := fun i hi => by
    rw [c14 i hi, b13 _ (by omega), b12 _ (by omega), b11 _ (by omega), b10 _ (by omega), b9 _ (by omega), b8 _ (by omega), b7 _ (by omega), b6 _ (by omega), b5 _ (by omega), b4 _ (by omega), b3 _ (by omega), b2 _ (by omega), b1 _ (by omega)]
  have rs : μ14 s = μ s := by
    rw [b14 _ (by omega), b13 _ (by omega), b12 _ (by omega), b11 _ (by omega), b10 _ (by omega), b9 _ (by omega), b8 _ (by omega), b7 _ (by omega), b6 _ (by omega), b5 _ (by omega), b4 _ (by omega), b3 _ (by omega), b2 _ (by omega), b1 _ (by omega)]
  have fr : ∀ k, (k < d ∨ d + 16 ≤ k) → μ14 k = μ k := fun k hk => by
    rw [b14 _ (by omega), b13 _ (by omega), b12 _ (by omega), b11 _ (by omega), b10 _ (by omega), b9 _ (by omega), b8 _ (by omega), b7 _ (by omega), b6 _ (by omega), b5 _ (by omega), b4 _ (by omega), b3 _ (by omega), b2 _ (by omega), b1 _ (by omega)]
  obtain ⟨M, eM⟩ : ∃ M, M = mst (mst (mst (mst μ14 d 6 (p 466)) d 7 (μ s 7)) d 8 (μ s 8)) d 9 (μ s 9) := ⟨_, rfl⟩
  have mo : ∀ z, z ≠ d → M z = μ14 z := fun z hz => by rw [eM, mst_ne hz, mst_ne hz, mst_ne hz, mst_ne hz]
  have m6 : M d 6 = p 466 := by rw [eM, mst_eq, upd_ne (by decide), mst_eq, upd_ne (by decide), mst_eq, upd_ne (by decide), mst_eq, upd_eq]
  have m7 : M d 7 = μ s 7 := by rw [eM, mst_eq, upd_ne (by decide), mst_eq, upd_ne (by decide), mst_eq, upd_eq]
  have m8 : M d 8 = μ s 8 := by rw [eM, mst_eq, upd_ne (by decide), mst_eq, upd_eq]
  have m9 : M d 9 = μ s 9 := by rw [eM, mst_eq, upd_eq]
  refine ⟨M, ?_, ⟨⟨fun b hb => ?_, fun b hb g0 g1 i hi h4 => ?_, fun b hb g0 g1 i hi h4 => ?_⟩, fun r hr => ?_, fun r hr => ?_, m6, ?_, ?_, ?_⟩, fun k hk => (mo k (by omega)).trans (fr k hk)⟩
  · have hz : zr (p 466) = some (p 466) := if_pos h6
    unfold f_X4_copyFrom f_X1_copyFrom pf
    rw [a1, Option.bind_some, a2, Option.bind_some, a3, Option.bind_some, a4, Option.bind_some, a5, Option.bind_some, a6, Option.bind_some, a7, Option.bind_some, a8, Option.bind_some, a9, Option.bind_some, Option.bind_some, a10, Option.bind_some, a11, Option.bind_some, a12, Option.bind_some, a13, Option.bind_some, a14, Option.bind_some, rs, h.2.2.2.1, hz, Option.bind_some, Option.bind_some, mst_ne (show s ≠ d by omega), rs, Option.bind_some, mst_ne (show s ≠ d by omega), mst_ne (show s ≠ d by omega), rs, Option.bind_some, mst_ne (show s ≠ d by omega), mst_ne (show s ≠ d by omega), mst_ne (show s ≠ d by omega), rs, Option.bind_some, eM]
  · rw [mo (d + 1 + 1) (by omega), mo (d + 1 + 2) (by omega), mo (d + 1 + 3) (by omega), mo (d + 1 + 4) (by omega), mo (d + 1 + 5) (by omega), mo (d + 1 + 6) (by omega), r1 b hb, r2 b hb, r3 b hb, r4 b hb, r5 b hb, r6 b hb]
    exact h.1.1 b hb
  · rw [mo (d + 1 + 7) (by omega), mo (d + 1 + 8) (by omega), r7 _ (by omega), r8 _ (by omega)]
    exact h.1.2.1 b hb g0 g1 i hi h4
  · rw [mo (d + 1 + 9) (by omega), r9 _ (by omega)]
    exact h.1.2.2 b hb g0 g1 i hi h4
  · rw [mo (d + 11) (by omega), mo (d + 12) (by omega), mo (d + 13) (by omega), r10 r hr, r11 r hr, r12 r hr]
    exact h.2.1 r hr
  · rw [mo (d + 14) (by omega), mo (d + 15) (by omega), r13 r hr, r14 r hr]
    exact h.2.2.1 r hr
  · rw [m7]
    exact h.2.2.2.2.1
  · rw [m8]
    exact h.2.2.2.2.2.1
  · rw [m9]
    exact h.2.2.2.2.2.2
-- pages that agree below 470
theorem RG.cg470 (h : RG g μ p) (e : ∀ i, i < 470 → P i = p i) : RG g μ P := by
  have eR : ∀ r v, r < 2 → v < 3 → gR P r v = gR p r v := fun r v hr hv => e _ (by omega)
  have eD : ∀ r v, r < 4 → v < 3 → gD P r v = gD p r v := fun r v hr hv => e _ (by omega)
  have ed : drf P = drf p := by
    unfold drf nowp
    rw [e 467 (by omega), cur_cg eR, eR _ 1 cur_lt (by decide)]
  refine ⟨h.1.cg (fun b w hb hw => e _ (by omega)), fun r hr => ?_, fun r hr => ?_, ?_, ?_, ?_, ?_⟩
  · rw [eR r 0 hr (by decide), eR r 1 hr (by decide), eR r 2 hr (by decide)]
    exact h.2.1 r hr
  · rw [eD r 0 hr (by decide), eD r 1 hr (by decide), eD r 2 hr (by decide)]
    exact h.2.2.1 r hr
  · rw [e 466 (by omega)]
    exact h.2.2.2.1
  · rw [e 466 (by omega), ed]
    exact h.2.2.2.2.1
  · rw [e 468 (by omega)]
    exact h.2.2.2.2.2.1
  · rw [e 469 (by omega)]
    exact h.2.2.2.2.2.2
theorem INV.cg470 (hi : INV B p) (e : ∀ i, i < 470 → P i = p i) : INV B P := by
  have hL : Lo p P := fun i hi => e i (by omega)
  refine INV_lo hi hL (by rw [e 466 (by omega)]; exact hi.2.2.2.2.1) ?_
  rcases hi.2.2.2.2.2.1 with z | z
  · refine Or.inl ⟨by rw [e 467 (by omega)]; exact z.1, fun b hb => ?_⟩
    rw [hL.gB hb (by decide), hL.gB hb (by decide)]
    exact z.2 b hb
  · obtain ⟨z1, z2, z3, z4, z5⟩ := z
    have ef : fdp P = fdp p := by
      unfold fdp
      rw [e 467 (by omega)]
    obtain ⟨b1, b2⟩ := keepD (P := P) (Y := fun b => gB P b 0 = 1 ∧ gB P b 5 = 0) z3 z5 (fun b hb hx => ⟨fun w hw hc => hL.gB hb hw, by rw [hL.gB hb (by decide)]; exact ne0_1 hx.1, by rw [hL.gB hb (by decide), hL.gB hb (by decide)]; exact hx⟩)
    exact Or.inr ⟨by rw [e 466 (by omega)]; exact z1, by rw [ef, e 467 (by omega)]; exact z2, by rw [ef]; exact b1, by rw [ef, hL.gB z3.1 (by decide)]; exact z4, by rw [ef]; exact b2⟩
theorem RG.fr16 (h : RG g μ p) (e : ∀ z, g ≤ z → z < g + 16 → μ' z = μ z) : RG g μ' p := by
  refine ⟨h.1.fr (fun z z1 z2 => e z (by omega) (by omega)), fun r hr => ?_, fun r hr => ?_, ?_, ?_, ?_, ?_⟩
  · rw [e (g + 11) (by omega) (by omega), e (g + 12) (by omega) (by omega), e (g + 13) (by omega) (by omega)]
    exact h.2.1 r hr
  · rw [e (g + 14) (by omega) (by omega), e (g + 15) (by omega) (by omega)]
    exact h.2.2.1 r hr
  · rw [e g (by omega) (by omega)]
    exact h.2.2.2.1
  · rw [e g (by omega) (by omega)]
    exact h.2.2.2.2.1
  · rw [e g (by omega) (by omega)]
    exact h.2.2.2.2.2.1
  · rw [e g (by omega) (by omega)]
    exact h.2.2.2.2.2.2
-- the model copies pages
theorem bring_b3 {q0 n0 q2 n2 A1 A3 : Nat} (hne : q0 ≠ q2) (h1 : A1 + 470 ≤ n0) (h3 : A3 + 470 ≤ n2) (h0 : n0 < 2 ^ 31) (h2 : n2 < 2 ^ 31) : ∀ (n k fu : Nat) (μ : Mem), k + n = 470 → n < fu → f_X7_bring_b3 q0 n0 q2 n2 fu (nI A1) (nI A3) (nI k) μ = some (rst μ q2 (fun i => if A3 + k ≤ i ∧ i < A3 + 470 then μ q0 (A1 + (i - A3)) else μ q2 i)) := by
  intro n
  induction n with
  | zero =>
    intro k fu μ hk hf
    obtain ⟨fu, rfl⟩ : ∃ z, fu = z + 1 := ⟨fu - 1, by omega⟩
    rw [f_X7_bring_b3, if_pos (lI (c := 470) 470 k rfl (by omega) (by omega))]
    have e : (fun i => if A3 + k ≤ i ∧ i < A3 + 470 then μ q0 (A1 + (i - A3)) else μ q2 i) = μ q2 := by
      funext i
      rw [if_neg (by omega)]
    rw [e, rst_self]
  | succ n ih =>
    intro k fu μ hk hf
    obtain ⟨fu, rfl⟩ : ∃ z, fu = z + 1 := ⟨fu - 1, by omega⟩
    rw [f_X7_bring_b3, if_neg (nlI (c := 470) 470 k rfl (by omega) (by omega)), nI_add, rd_n (by omega) h0, Option.bind_some, nI_add, wr_n (by omega) h2, Option.bind_some, nI_1, ih (k + 1) fu _ (by omega) (by omega), mst_rst, rst_rst, rst_eq, rst_ne hne]
    congr 2
    funext i
    by_cases c1 : A3 + (k + 1) ≤ i ∧ i < A3 + 470
    · rw [if_pos c1, if_pos (show A3 + k ≤ i ∧ i < A3 + 470 by omega)]
    · rw [if_neg c1]
      by_cases c2 : i = A3 + k
      · rw [c2, upd_eq, if_pos (show A3 + k ≤ A3 + k ∧ A3 + k < A3 + 470 by omega)]
        congr 1
        omega
      · rw [upd_ne c2, if_neg (show ¬ (A3 + k ≤ i ∧ i < A3 + 470) by omega)]
theorem bring_n {q0 n0 q2 n2 A1 A3 : Nat} {x1 x3 : Int32} (e1 : x1 = nI A1) (e3 : x3 = nI A3) (hne : q0 ≠ q2) (h1 : A1 + 470 ≤ n0) (h3 : A3 + 470 ≤ n2) (h0 : n0 < 2 ^ 31) (h2 : n2 < 2 ^ 31) : f_X7_bring q0 n0 x1 q2 n2 x3 μ = some (rst μ q2 (fun i => if A3 ≤ i ∧ i < A3 + 470 then μ q0 (A1 + (i - A3)) else μ q2 i)) := by
  have e := bring_b3 (q0 := q0) (n0 := n0) (q2 := q2) (n2 := n2) (A1 := A1) (A3 := A3) hne h1 h3 h0 h2 470 0 FU μ (by omega) (by decide)
  rw [nI_0] at e
  rw [e1, e3]
  exact e
theorem ends_b27 {v : Int32} : ∀ (n k fu : Nat) (μ : Mem), k + n = 1410 → n < fu → f_X7_ends_b27 q fu v (nI k) μ = (pf (rst μ (q + 3) (fun i => if k ≤ i ∧ i < 1410 then μ (q + 3) (i + 470) else μ (q + 3) i)) q 3 (μ q 3 - 1)).bind (fun μ4 => f_X7_ends_b66 q v μ4) := by
  intro n
  induction n with
  | zero =>
    intro k fu μ hk hf
    obtain ⟨fu, rfl⟩ : ∃ z, fu = z + 1 := ⟨fu - 1, by omega⟩
    rw [f_X7_ends_b27, if_pos (lI (c := 1410) 1410 k rfl (by omega) (by omega))]
    have e : (fun i => if k ≤ i ∧ i < 1410 then μ (q + 3) (i + 470) else μ (q + 3) i) = μ (q + 3) := by
      funext i
      rw [if_neg (by omega)]
    rw [e, rst_self]
  | succ n ih =>
    intro k fu μ hk hf
    obtain ⟨fu, rfl⟩ : ∃ z, fu = z + 1 := ⟨fu - 1, by omega⟩
    rw [f_X7_ends_b27, if_neg (nlI (c := 1410) 1410 k rfl (by omega) (by omega)), show nI k + 470 = nI (k + 470) by rw [show (470 : Int32) = nI 470 from rfl, nI_add], rd_n (by omega) (by decide), Option.bind_some, wr_n (by omega) (by decide), Option.bind_some, nI_1, ih (k + 1) fu _ (by omega) (by omega), mst_rst, rst_rst, rst_eq, rst_ne (show q ≠ q + 3 by omega)]
    congr 2
    congr 1
    funext i
    by_cases c1 : k + 1 ≤ i ∧ i < 1410
    · rw [if_pos c1, if_pos (show k ≤ i ∧ i < 1410 by omega), upd_ne (by omega)]
    · rw [if_neg c1]
      by_cases c2 : i = k
      · rw [c2, upd_eq, if_pos (show k ≤ k ∧ k < 1410 by omega)]
      · rw [upd_ne c2, if_neg (show ¬ (k ≤ i ∧ i < 1410) by omega)]
end PHIS
