/-! PURE, of the saved states and the start: the class alone -/
section PSAV
variable {q g a b d s : Nat} {m μ μ' : Mem} {p p' P : Nat → Int32} {n k i j c x len : Nat} {B C : Int} {v : Int32}
theorem pf_e {μ : Mem} {q k : Nat} {x : Int32} : pf μ q k x = some (mst μ q k x) := rfl
theorem stateAt_n {q x : Nat} (hx : x < 4) : f_X5_stateAt q (nI x) = some (q + 2 + 16 * x) := by
  unfold f_X5_stateAt
  rw [if_neg (by rw [nI_clamp (by omega)]; exact fun z => z.elim (nI_nz (by omega)) (by omega)), nI_clamp (by omega)]
theorem save_e (h : RG 1 μ p) (h6 : p 466 = 0 ∨ p 466 = 1) (hc : c ≤ 4) (hx : x < 4) (e1 : μ 17 1 = nI c) (e2 : μ 17 2 = nI x) : ∃ μ', f_X5_save 17 1 μ = some μ' ∧ RG (17 + 2 + 16 * x) μ' p ∧ (∀ k, k ≠ 17 → (k < 17 + 2 + 16 * x ∨ 17 + 2 + 16 * x + 16 ≤ k) → μ' k = μ k) ∧ μ' 17 1 = nI (min (c + 1) 4) ∧ μ' 17 2 = nI ((x + 1) % 4) := by
  obtain ⟨μ1, a1, a2, a3⟩ := copyFrom_e (d := 17 + 2 + 16 * x) (s := 1) (Or.inr (by omega)) h h6
  have r17 : μ1 17 = μ 17 := a3 17 (by omega)
  have hm : (if 4 < nI c + 1 then (4 : Int32) else nI c + 1) = nI (min (c + 1) 4) := by
    rw [nI_1]
    by_cases c1 : c = 4
    · rw [c1]
      rfl
    · rw [if_neg (show ¬ (4 : Int32) < nI (c + 1) from nI_nlt (a := 4) (by omega) (by omega)), show min (c + 1) 4 = c + 1 by omega]
  have fin : ∀ s0 : Int32, s0 = nI ((x + 1) % 4) → ∃ μ', f_X5_save_b39 17 1 s0 μ1 = some μ' ∧ RG (17 + 2 + 16 * x) μ' p ∧ (∀ k, k ≠ 17 → (k < 17 + 2 + 16 * x ∨ 17 + 2 + 16 * x + 16 ≤ k) → μ' k = μ k) ∧ μ' 17 1 = nI (min (c + 1) 4) ∧ μ' 17 2 = nI ((x + 1) % 4) := fun s0 hs0 => by
    refine ⟨mst (mst μ1 17 2 s0) 17 1 (nI (min (c + 1) 4)), ?_, a2.fr16 (fun z z1 z2 => by rw [mst_ne (by omega), mst_ne (by omega)]), fun k k1 k2 => by rw [mst_ne k1, mst_ne k1]; exact a3 k k2, ?_, ?_⟩
    · unfold f_X5_save_b39 f_X5_save_b56 pf
      rw [Option.bind_some, mst_eq, upd_ne (by decide), r17, e1, hm, Option.bind_some]
    · rw [mst_eq, upd_eq]
    · rw [mst_eq, upd_ne (by decide), mst_eq, upd_eq, hs0]
  unfold f_X5_save
  rw [e2, stateAt_n hx, Option.bind_some, a1, Option.bind_some, r17, e2, nI_1]
  by_cases c3 : x = 3
  · rw [if_pos (show (4 : Int32) ≤ nI (x + 1) from lI (c := 4) 4 _ rfl (by omega) (by omega))]
    exact fin 0 (by rw [c3]; rfl)
  · rw [if_neg (show ¬ (4 : Int32) ≤ nI (x + 1) from nlI (c := 4) 4 _ rfl (by omega) (by omega))]
    exact fin _ (by rw [show (x + 1) % 4 = x + 1 by omega])
end PSAV
section PDIF
variable {m μ μ' : Mem} {p p' P : Nat → Int32} {n k i j c x len r : Nat} {B C : Int} {v : Int32} {hh hh' : Int64}
theorem RG.diff_b4 {g : Nat} (h : RG g μ p) (hi : INV B p) (hr4 : r < 4) (ho : gD p r 0 = 1) : ∀ (n k fu : Nat) (a : Int32), k + n = 100 → n < fu → f_X4_differencesTo_b4 g fu (nI r) a (nI k) μ = some (lp (fun j (x : Int32) => x + (if vby p (cd p) (nI j) = vby p (rdp p r) (nI j) then 0 else 1)) n k a) := by
  intro n
  induction n with
  | zero =>
    intro k fu a hk hf
    obtain ⟨fu, rfl⟩ : ∃ z, fu = z + 1 := ⟨fu - 1, by omega⟩
    rw [f_X4_differencesTo_b4, if_pos (lI (c := 100) 100 k rfl (by omega) (by omega))]
    rfl
  | succ n ih =>
    intro k fu a hk hf
    obtain ⟨fu, rfl⟩ : ∃ z, fu = z + 1 := ⟨fu - 1, by omega⟩
    rw [f_X4_differencesTo_b4, if_neg (nlI (c := 100) 100 k rfl (by omega) (by omega)), h.readerValue hi hr4 ho, Option.bind_some, h.currentValue hi, Option.bind_some]
    unfold f_X4_differencesTo_b30
    rw [show f_X6_one 0 = some 0 from rfl, show f_X6_one 1 = some 1 from rfl, Option.bind_some, Option.bind_some, nI_1, ih (k + 1) fu _ (by omega) (by omega), ih (k + 1) fu _ (by omega) (by omega)]
    show _ = some (lp _ n (k + 1) (a + (if vby p (cd p) (nI k) = vby p (rdp p r) (nI k) then 0 else 1)))
    by_cases c : vby p (cd p) (nI k) = vby p (rdp p r) (nI k)
    · rw [if_pos c.symm, if_pos c]
    · rw [if_neg (fun z => c z.symm), if_neg c]
end PDIF
section PZER
variable {b i k n : Nat} {μ μ' : Mem} {hh : Int64}
def p0 : Nat → Int32 := fun i => if i = 0 ∨ i = 1 ∨ i = 448 ∨ i = 450 then 1 else if i = 452 ∨ i = 467 then -1 else 0
theorem p0_1 (h : i = 0 ∨ i = 1 ∨ i = 448 ∨ i = 450) : p0 i = 1 := if_pos h
theorem p0_0 (h : ¬ (i = 0 ∨ i = 1 ∨ i = 448 ∨ i = 450)) (h2 : ¬ (i = 452 ∨ i = 467)) : p0 i = 0 := (if_neg h).trans (if_neg h2)
theorem p0_m (h : i = 452 ∨ i = 467) : p0 i = -1 := (if_neg (by omega)).trans (if_pos h)
theorem p0_gB {w : Nat} (hb : b < 32) (hw : w < 14) : gB p0 b w = if b = 0 ∧ (w = 0 ∨ w = 1) then 1 else 0 := by
  show p0 (14 * b + w) = _
  by_cases c : b = 0 ∧ (w = 0 ∨ w = 1)
  · rw [if_pos c, p0_1 (by omega)]
  · rw [if_neg c, p0_0 (by omega) (by omega)]
theorem p0_gD {r v : Nat} (hr : r < 4) (hv : v < 3) : gD p0 r v = 0 := p0_0 (by omega) (by omega)
theorem p0_gR : gR p0 0 0 = 1 ∧ gR p0 0 1 = 0 ∧ gR p0 0 2 = 1 ∧ gR p0 1 0 = 0 ∧ gR p0 1 1 = -1 ∧ gR p0 1 2 = 0 := ⟨p0_1 (by decide), p0_0 (by decide) (by decide), p0_1 (by decide), p0_0 (by decide) (by decide), p0_m (by decide), p0_0 (by decide) (by decide)⟩
theorem p0_cur : cur p0 = 0 := by
  unfold cur
  rw [p0_gR.2.2.2.2.2, if_neg (fun z => absurd z.1 (by decide))]
theorem p0_now : nowp p0 = 0 := by
  unfold nowp
  rw [p0_cur]
  exact p0_gR.2.1
theorem p0_cd : cd p0 = 0 := by
  have e : (nowp p0).toNatClampNeg = 0 := by
    rw [p0_now]
    rfl
  exact e
theorem p0_n2 : nB p0 0 2 = 0 := by
  unfold nB
  rw [p0_gB (by decide) (by decide), if_neg (by decide)]
  rfl
theorem INV_0 : INV 1 p0 := by
  obtain ⟨r1, r2, r3, r4, r5, r6⟩ := p0_gR
  have hd : DirOK p0 0 := by
    refine ⟨by decide, ?_, ?_, ?_, by rw [p0_n2]; decide, fun i hi => ?_, fun i j hi => ?_⟩
    · rw [p0_gB (by decide) (by decide), if_pos ⟨rfl, Or.inl rfl⟩]
      decide
    · rw [p0_gB (by decide) (by decide), if_pos ⟨rfl, Or.inr rfl⟩]
    · rw [p0_n2, p0_gB (by decide) (by decide), if_neg (by decide)]
      rfl
    · rw [p0_n2] at hi
      exact absurd hi (Nat.not_lt_zero i)
    · rw [p0_n2] at hi
      exact absurd hi (Nat.not_lt_zero i)
  have e4 : ∀ b, b < 32 → gB p0 b 4 = 0 ∧ gB p0 b 5 = 0 := fun b hb => by
    rw [p0_gB hb (by decide), p0_gB hb (by decide), if_neg (by omega), if_neg (by omega)]
    exact ⟨rfl, rfl⟩
  refine ⟨⟨fun r hr => ?_, ?_, fun r hr => ?_⟩, fun b hb => ?_, ⟨?_, ?_, ?_⟩, fun r hr ho => ?_, ?_, Or.inl ⟨?_, e4⟩, ?_⟩
  · rcases (show r = 0 ∨ r = 1 by omega) with rfl | rfl
    · rw [r1, r3]
      exact ⟨Or.inr rfl, by decide⟩
    · rw [r4, r6]
      exact ⟨Or.inl rfl, by decide⟩
  · rw [p0_cur]
    exact r3
  · rw [p0_gD hr (by decide)]
    exact ⟨Or.inl rfl, fun z => absurd z (by decide)⟩
  · rw [(e4 b hb).1, (e4 b hb).2, p0_gB hb (by decide)]
    refine ⟨?_, Or.inl rfl, Or.inl rfl, fun z => absurd z (by decide), fun z => absurd z (by decide)⟩
    split
    · exact Or.inr (Or.inl rfl)
    · exact Or.inl rfl
  · rw [p0_now, p0_cd]
    rfl
  · rw [p0_cd]
    exact hd
  · rw [p0_cd]
    refine ⟨⟨?_, (e4 0 (by decide)).1⟩, fun i hi => ?_⟩
    · rw [p0_gB (by decide) (by decide), if_pos ⟨rfl, Or.inl rfl⟩]
    · rw [p0_n2] at hi
      exact absurd hi (Nat.not_lt_zero i)
  · rw [p0_gD hr (by decide)] at ho
    exact absurd ho (by decide)
  · exact Or.inl (p0_0 (by decide) (by decide))
  · exact p0_m (by decide)
  · rw [p0_cur, r1]
    decide
theorem ctor_e (b : Nat) : ∃ μ', f_X4_ctor b = some μ' ∧ RG b μ' p0 := by
  obtain ⟨F, eF⟩ : ∃ F : Nat → Int32, F = fun i => if i < 32 then -1000 else 0 := ⟨_, rfl⟩
  have h1 : f_X1_init_tail (b + 1) zμ = some (rst (rst (rst zμ (b + 1 + 2) F) (b + 1 + 3) F) (b + 1 + 4) F) := by
    unfold f_X1_init_tail
    rw [fillRow_n (by decide), Option.bind_some, fillRow_n (by decide), Option.bind_some, fillRow_n (by decide), Option.bind_some, rst_ne (show b + 1 + 3 ≠ b + 1 + 2 by omega), rst_ne (show b + 1 + 4 ≠ b + 1 + 3 by omega), rst_ne (show b + 1 + 4 ≠ b + 1 + 2 by omega), eF]
    rfl
  obtain ⟨G, eG⟩ : ∃ G, G = gmem b (rst (rst (rst zμ (b + 1 + 2) F) (b + 1 + 3) F) (b + 1 + 4) F) := ⟨_, rfl⟩
  have gz : ∀ z, z ≠ b + 1 + 2 → z ≠ b + 1 + 3 → z ≠ b + 1 + 4 → ∀ j, G z j = 0 := fun z z1 z2 z3 j => by
    rw [eG]
    unfold gmem pw
    by_cases c1 : z < b + 1
    · rw [if_pos c1]
      rfl
    · rw [if_neg c1]
      by_cases c2 : z < b + 11
      · rw [if_pos c2, rst_ne z3, rst_ne z2, rst_ne z1]
        rfl
      · rw [if_neg c2]
        rfl
  have gF : ∀ z, (z = b + 1 + 2 ∨ z = b + 1 + 3 ∨ z = b + 1 + 4) → G z = F := fun z hz => by
    rw [eG]
    unfold gmem pw
    rw [if_neg (by omega), if_pos (by omega)]
    rcases hz with rfl | rfl | rfl
    · rw [rst_ne (by omega), rst_ne (by omega), rst_eq]
    · rw [rst_ne (by omega), rst_eq]
    · rw [rst_eq]
  have F32 : ∀ j, j < 32 → F j = -1000 := fun j hj => by
    rw [eF]
    exact if_pos hj
  obtain ⟨M0, e0⟩ : ∃ M0, M0 = mst (mst (mst (mst G b 6 0) b 7 (-1000)) b 8 0) b 9 0 := ⟨_, rfl⟩
  obtain ⟨M1, e1⟩ : ∃ M1, M1 = rst M0 (b + 14) (fun i => if i < 4 then -1000 else M0 (b + 14) i) := ⟨_, rfl⟩
  obtain ⟨M2, e2⟩ : ∃ M2, M2 = rst M1 (b + 15) (fun i => if i < 4 then -1000 else M1 (b + 15) i) := ⟨_, rfl⟩
  have o2 : ∀ z, z ≠ b → z ≠ b + 14 → z ≠ b + 15 → M2 z = G z := fun z z1 z2 z3 => by
    rw [e2, rst_ne z3, e1, rst_ne z2, e0, mst_ne z1, mst_ne z1, mst_ne z1, mst_ne z1]
  have hz : ∀ c w, gB (fun _ => 0) c w = 0 := fun _ _ => rfl
  have hRB : RB (b + 1) M2 (fun _ => 0) := by
    refine ⟨fun c hc => ?_, fun c hc g0 => absurd (hz c 0) g0, fun c hc g0 => absurd (hz c 0) g0⟩
    rw [hz, hz, hz, hz, hz, hz, o2 (b + 1 + 1) (by omega) (by omega) (by omega), o2 (b + 1 + 2) (by omega) (by omega) (by omega), o2 (b + 1 + 3) (by omega) (by omega) (by omega), o2 (b + 1 + 4) (by omega) (by omega) (by omega), o2 (b + 1 + 5) (by omega) (by omega) (by omega), o2 (b + 1 + 6) (by omega) (by omega) (by omega), gz (b + 1 + 1) (by omega) (by omega) (by omega), gz (b + 1 + 5) (by omega) (by omega) (by omega), gz (b + 1 + 6) (by omega) (by omega) (by omega), gF (b + 1 + 2) (Or.inl rfl), gF (b + 1 + 3) (Or.inr (Or.inl rfl)), gF (b + 1 + 4) (Or.inr (Or.inr rfl)), F32 c hc, if_pos rfl, if_neg (by decide)]
    exact ⟨rfl, rfl, rfl, rfl, rfl, rfl⟩
  obtain ⟨M3, a1, a2, a3⟩ := hRB.useFresh (kind := 1) (b := 0) (by decide) (hz 0 5)
  rw [nI_0] at a1
  obtain ⟨M4, e4⟩ : ∃ M4, M4 = rst M3 (b + 1 + 5) (fun i => if i < 32 then 0 else M3 (b + 1 + 5) i) := ⟨_, rfl⟩
  have dB : ∀ c w, c < 32 → w < 14 → gB (dgB (fun _ => 0) 0 1) c w = if c = 0 ∧ (w = 0 ∨ w = 1 ∨ w = 4) then 1 else 0 := fun c w hc hw => by
    by_cases c0 : c = 0
    · rw [c0]
      rcases (show w = 0 ∨ w = 1 ∨ w = 2 ∨ w = 3 ∨ w = 4 ∨ w = 5 ∨ 6 ≤ w by omega) with rfl | rfl | rfl | rfl | rfl | rfl | h6
      · exact dgB_eq.1
      · exact dgB_eq.2.1
      · exact dgB_eq.2.2.1
      · exact dgB_eq.2.2.2.1
      · exact dgB_eq.2.2.2.2.1
      · exact dgB_eq.2.2.2.2.2
      · rw [dgB_hi h6 hw, if_neg (by omega)]
        exact hz 0 w
    · rw [dgB_ne c0 hw, if_neg (fun z => c0 z.1)]
      exact hz c w
  have hRB4 : RB (b + 1) M4 p0 := by
    refine a2.rows (fun z z1 z2 z3 z4 z5 z6 => by rw [e4, rst_ne z5]) (fun c w hc hw hcw => ?_) (fun c hc => ?_) (fun c hc => ?_)
    · rw [dB c w hc hw, p0_gB hc hw]
      by_cases y : c = 0 ∧ (w = 0 ∨ w = 1)
      · rw [if_pos y, if_pos (show c = 0 ∧ (w = 0 ∨ w = 1 ∨ w = 4) by omega)]
      · rw [if_neg y, if_neg (show ¬ (c = 0 ∧ (w = 0 ∨ w = 1 ∨ w = 4)) by omega)]
    · rw [dB c 0 hc (by decide), p0_gB hc (by decide)]
      by_cases y : c = 0
      · rw [if_pos ⟨y, Or.inl rfl⟩, if_pos ⟨y, Or.inl rfl⟩]
      · rw [if_neg (fun z => y z.1), if_neg (fun z => y z.1)]
    · have eb := a2.1 c hc
      rw [e4, rst_ne (show b + 1 + 1 ≠ b + 1 + 5 by omega), rst_ne (show b + 1 + 4 ≠ b + 1 + 5 by omega), rst_eq, rst_ne (show b + 1 + 6 ≠ b + 1 + 5 by omega), if_pos hc, eb.1, eb.2.2.2.1, eb.2.2.2.2.2, dB c 0 hc (by decide), dB c 3 hc (by decide), dB c 5 hc (by decide), p0_gB hc (by decide), p0_gB hc (by decide), p0_gB hc (by decide), p0_gB hc (by decide)]
      by_cases y : c = 0
      · rw [y]
        exact ⟨rfl, rfl, rfl, rfl⟩
      · rw [if_neg (show ¬ (c = 0 ∧ (0 = 0 ∨ 0 = 1 ∨ 0 = 4)) from fun z => y z.1), if_neg (show ¬ (c = 0 ∧ (5 = 0 ∨ 5 = 1 ∨ 5 = 4)) from fun z => y z.1), if_neg (show ¬ (c = 0 ∧ (0 = 0 ∨ 0 = 1)) from fun z => y z.1), if_neg (show ¬ (c = 0 ∧ (4 = 0 ∨ 4 = 1)) from fun z => y z.1), if_neg (show ¬ (c = 0 ∧ (5 = 0 ∨ 5 = 1)) from fun z => y z.1), if_neg (show ¬ ((0 : Int32) = 2) by decide), if_neg (show ¬ ((0 : Int32) = 2) by decide)]
        exact ⟨rfl, rfl, rfl, rfl⟩
  obtain ⟨M5, e5⟩ : ∃ M5, M5 = mst (mst (mst M4 (b + 11) 0 1) (b + 13) 0 1) (b + 12) 1 (-1000) := ⟨_, rfl⟩
  have m4 : ∀ z, (z ≤ b + 1 ∨ b + 11 ≤ z) → M4 z = M2 z := fun z hz => by
    rw [e4, rst_ne (by omega)]
    exact a3 z (by omega)
  refine ⟨M5, ?_, hRB4.fr (fun z z1 z2 => by rw [e5, mst_ne (by omega), mst_ne (by omega), mst_ne (by omega)]), fun r hr => ?_, fun r hr => ?_, ?_, ?_, ?_, ?_⟩
  · unfold f_X4_ctor f_X4_init_tail f_X1_keepFresh
    rw [h1, Option.bind_some, ← eG, pf_e, Option.bind_some, pf_e, Option.bind_some, pf_e, Option.bind_some, pf_e, Option.bind_some, ← e0, fillRow_n (by decide), Option.bind_some, ← e1, fillRow_n (by decide), Option.bind_some, ← e2, a1, Option.bind_some, fillRow_n (by decide), Option.bind_some, ← e4, Option.bind_some]
    have s1 : ∀ (A : Mem) (x : Int32), f_X6_setCell (b + 11) 2 0 x A = some (mst A (b + 11) 0 x) := fun A x => setCell_n (k := 0) (by decide) (by decide)
    have s2 : ∀ (A : Mem) (x : Int32), f_X6_setCell (b + 13) 2 0 x A = some (mst A (b + 13) 0 x) := fun A x => setCell_n (k := 0) (by decide) (by decide)
    have s3 : ∀ (A : Mem) (x : Int32), f_X6_setCell (b + 12) 2 1 x A = some (mst A (b + 12) 1 x) := fun A x => setCell_n (k := 1) (by decide) (by decide)
    rw [s1, Option.bind_some, s2, Option.bind_some, s3, Option.bind_some, e5]
  · obtain ⟨r1, r2, r3, r4, r5, r6⟩ := p0_gR
    have z11 : ∀ j, M4 (b + 11) j = 0 := fun j => by rw [m4 _ (by omega), o2 _ (by omega) (by omega) (by omega), gz _ (by omega) (by omega) (by omega)]
    have z12 : ∀ j, M4 (b + 12) j = 0 := fun j => by rw [m4 _ (by omega), o2 _ (by omega) (by omega) (by omega), gz _ (by omega) (by omega) (by omega)]
    have z13 : ∀ j, M4 (b + 13) j = 0 := fun j => by rw [m4 _ (by omega), o2 _ (by omega) (by omega) (by omega), gz _ (by omega) (by omega) (by omega)]
    rw [e5, mst_ne (show b + 11 ≠ b + 12 by omega), mst_ne (show b + 11 ≠ b + 13 by omega), mst_eq, mst_eq, mst_ne (show b + 12 ≠ b + 13 by omega), mst_ne (show b + 12 ≠ b + 11 by omega), mst_ne (show b + 13 ≠ b + 12 by omega), mst_eq, mst_ne (show b + 13 ≠ b + 11 by omega)]
    rcases (show r = 0 ∨ r = 1 by omega) with rfl | rfl
    · rw [upd_eq, upd_ne (by decide), upd_eq, z12, r1, r2, r3]
      exact ⟨rfl, rfl, rfl⟩
    · rw [upd_ne (by decide), upd_eq, upd_ne (by decide), z11, z13, r4, r5, r6]
      exact ⟨rfl, rfl, rfl⟩
  · rw [p0_gD hr (by decide), p0_gD hr (by decide), p0_gD hr (by decide), if_neg (by decide), e5, mst_ne (by omega), mst_ne (by omega), mst_ne (by omega), mst_ne (by omega), mst_ne (by omega), mst_ne (by omega), m4 (b + 14) (by omega), m4 (b + 15) (by omega)]
    constructor
    · rw [e2, rst_ne (by omega), e1, rst_eq, if_pos hr]
    · rw [e2, rst_eq, if_pos hr]
  · rw [e5, mst_ne (by omega), mst_ne (by omega), mst_ne (by omega), m4 b (by omega), e2, rst_ne (by omega), e1, rst_ne (by omega), e0, mst_eq, upd_ne (by decide), mst_eq, upd_ne (by decide), mst_eq, upd_ne (by decide), mst_eq, upd_eq]
    exact (p0_0 (by decide) (by decide)).symm
  · rw [show p0 466 = 0 from p0_0 (by decide) (by decide), if_neg (by decide), e5, mst_ne (by omega), mst_ne (by omega), mst_ne (by omega), m4 b (by omega), e2, rst_ne (by omega), e1, rst_ne (by omega), e0, mst_eq, upd_ne (by decide), mst_eq, upd_ne (by decide), mst_eq, upd_eq]
  · rw [e5, mst_ne (by omega), mst_ne (by omega), mst_ne (by omega), m4 b (by omega), e2, rst_ne (by omega), e1, rst_ne (by omega), e0, mst_eq, upd_ne (by decide), mst_eq, upd_eq]
    exact (p0_0 (by decide) (by decide)).symm
  · rw [e5, mst_ne (by omega), mst_ne (by omega), mst_ne (by omega), m4 b (by omega), e2, rst_ne (by omega), e1, rst_ne (by omega), e0, mst_eq, upd_eq]
    exact (p0_0 (by decide) (by decide)).symm
end PZER
