/-! PURE, the invariant behind begin, commit, abort, open and close -/
section PINVB
variable {q g : Nat} {m μ μ' : Mem} {p p' P Q : Nat → Int32} {l l' b b' w' n s k d d' f pl j i r : Nat} {key val kind x w c : Int32} {B : Int}
theorem LeafOK.cgs (h : LeafOK p l) (e : ∀ w, w < 14 → (w = 1 ∨ w = 2 ∨ 6 ≤ w) → gB P l w = gB p l w) (e0 : gB P l 0 ≠ 0) : LeafOK P l := by
  have e2 : nB P l 2 = nB p l 2 := nB_of (e 2 (by decide) (by decide))
  obtain ⟨h1, h2, h3, h4, h5, h6, h7⟩ := h
  refine ⟨h1, e0, by rw [e 1 (by decide) (by decide)]; exact h3, by rw [e 2 (by decide) (by decide), e2]; exact h4, by rw [e2]; exact h5, by rw [e2]; exact h6, fun i j hij hj => ?_⟩
  rw [e2] at hj
  rw [e _ (by omega) (by omega), e _ (by omega) (by omega)]
  exact h7 i j hij hj
theorem keepD {X Y : Nat → Prop} (h : DirOK p d) (hX : Pg p d X) (hk : ∀ b, b < 32 → X b → (∀ w, w < 14 → (w = 1 ∨ w = 2 ∨ 6 ≤ w) → gB P b w = gB p b w) ∧ gB P b 0 ≠ 0 ∧ Y b) : DirOK P d ∧ Pg P d Y := by
  obtain ⟨h1, h2, h3, h4, h5, h6, h7⟩ := h
  obtain ⟨k1, k2, k3⟩ := hk d h1 hX.1
  have e2 : nB P d 2 = nB p d 2 := nB_of (k1 2 (by decide) (by decide))
  have ei : ∀ i, i < nB p d 2 → nB P d (6 + i) = nB p d (6 + i) := fun i hi => nB_of (k1 _ (by omega) (by omega))
  have kl := fun i (hi : i < nB p d 2) => hk _ (h6 i hi).2.1 (hX.2 i hi)
  refine ⟨⟨h1, k2, by rw [k1 1 (by decide) (by decide)]; exact h3, by rw [k1 2 (by decide) (by decide), e2]; exact h4, by rw [e2]; exact h5, fun i hi => ?_, fun i j hi hj hij => ?_⟩, k3, fun i hi => ?_⟩
  · rw [e2] at hi
    rw [ei i hi, k1 _ (by omega) (by omega)]
    exact ⟨(h6 i hi).1, (h6 i hi).2.cgs (kl i hi).1 (kl i hi).2.1⟩
  · rw [e2] at hi hj
    rw [ei i hi, ei j hj] at hij
    exact h7 i j hi hj hij
  · rw [e2] at hi
    rw [ei i hi]
    exact (kl i hi).2.2
theorem ne0_1 {x : Int32} (h : x = 1) : x ≠ 0 := by rw [h]; decide
theorem ne0_2 {x : Int32} (h : x = 2) : x ≠ 0 := by rw [h]; decide
theorem cd_of (h : nowp P = nowp p) : cd P = cd p := by
  have q1 : (nowp P).toNatClampNeg = (nowp p).toNatClampNeg := by rw [h]
  exact q1
theorem rdp_of (h : gD P r 2 = gD p r 2) : rdp P r = rdp p r := by
  unfold rdp
  rw [h]
/-- a reader is kept where the pages that it needs are -/
theorem keepR (hi : ReadOK p r) (hD : ∀ v, v < 3 → gD P r v = gD p r v) (hc : gD p r 1 ≤ gR P (cur P) 0) (hk : ∀ b, b < 32 → ((gB p b 0 = 1 ∧ gB p b 4 = 0) ∨ (gB p b 0 = 2 ∧ gD p r 1 < gB p b 3)) → (∀ w, w < 14 → (w = 1 ∨ w = 2 ∨ 6 ≤ w) → gB P b w = gB p b w) ∧ ((gB P b 0 = 1 ∧ gB P b 4 = 0) ∨ (gB P b 0 = 2 ∧ gD p r 1 < gB P b 3))) : ReadOK P r := by
  obtain ⟨r1, r2, r3, r4⟩ := hi
  have er := rdp_of (hD 2 (by decide))
  obtain ⟨a1, a2⟩ := keepD (P := P) (Y := fun b => (gB P b 0 = 1 ∧ gB P b 4 = 0) ∨ (gB P b 0 = 2 ∧ gD p r 1 < gB P b 3)) r2 r3 (fun b hb hx => ⟨(hk b hb hx).1, by
    rcases (hk b hb hx).2 with z | z
    · exact ne0_1 z.1
    · exact ne0_2 z.1, (hk b hb hx).2⟩)
  refine ⟨by rw [er, hD 2 (by decide)]; exact r1, by rw [er]; exact a1, ?_, by rw [hD 1 (by decide)]; exact hc⟩
  rw [er, hD 1 (by decide)]
  exact a2
/-- a draft that goes -/
theorem INV_drop0 (hi : INV B p) (hP : DropOf p P) (hr : RootOK P) (hc : cur P = cur p) (hcv : ∀ v, v < 3 → gR P (cur p) v = gR p (cur p) v) (hD : ∀ r v, r < 4 → v < 3 → gD P r v = gD p r v) (h6 : P 466 = 0) (h7 : P 467 = -1) : INV B P := by
  have en : nowp P = nowp p := by
    unfold nowp
    rw [hc, hcv 1 (by decide)]
  obtain ⟨d1, d2, d3⟩ := hi.2.2.1
  have st : ∀ b, b < 32 → gB p b 4 = 0 → ∀ w, w < 14 → w ≠ 5 → gB P b w = gB p b w := fun b hb h4 w hw h5 => by
    rw [hP b w hb hw, if_neg (by rw [h4]; decide), if_neg h5]
  have e45 : ∀ b, b < 32 → gB P b 4 = 0 ∧ gB P b 5 = 0 := fun b hb => by
    rw [hP b 4 hb (by decide), hP b 5 hb (by decide)]
    by_cases c : gB p b 4 = 1
    · rw [if_pos c, if_pos c]
      exact ⟨rfl, rfl⟩
    · rw [if_neg c, if_neg c, if_neg (by decide), if_pos rfl]
      exact ⟨(hi.2.1 b hb).2.1.resolve_right c, rfl⟩
  refine ⟨hr, fun b hb => ?_, ?_, fun r hr4 ho => ?_, Or.inl h6, Or.inl ⟨h7, e45⟩, ?_⟩
  · obtain ⟨z4, z5⟩ := e45 b hb
    rw [z4, z5, hP b 0 hb (by decide)]
    refine ⟨?_, Or.inl rfl, Or.inl rfl, fun z => absurd z (by decide), fun z => absurd z (by decide)⟩
    split
    · exact Or.inl rfl
    · rw [if_neg (by decide)]
      exact (hi.2.1 b hb).1
  · obtain ⟨a1, a2⟩ := keepD (P := P) (Y := fun b => gB P b 0 = 1 ∧ gB P b 4 = 0) d2 d3 (fun b hb hx => ⟨fun w hw hc => st b hb hx.2 w hw (by omega), by rw [st b hb hx.2 0 (by decide) (by decide)]; exact ne0_1 hx.1, by rw [st b hb hx.2 0 (by decide) (by decide), st b hb hx.2 4 (by decide) (by decide)]; exact hx⟩)
    exact ⟨by rw [en, cd_of en]; exact d1, by rw [cd_of en]; exact a1, by rw [cd_of en]; exact a2⟩
  · rw [hD r 0 hr4 (by decide)] at ho
    have hR := hi.2.2.2.1 r hr4 ho
    refine keepR hR (fun v hv => hD r v hr4 hv) (by rw [hc, hcv 0 (by decide)]; exact hR.2.2.2) (fun b hb hx => ?_)
    have h4 : gB p b 4 = 0 := by
      rcases hx with z | z
      · exact z.2
      · rcases (hi.2.1 b hb).2.1 with y | y
        · exact y
        · have e := ((hi.2.1 b hb).2.2.2.1 y).1
          rw [z.1] at e
          exact absurd e (by decide)
    refine ⟨fun w hw hc => st b hb h4 w hw (by omega), ?_⟩
    rw [st b hb h4 0 (by decide) (by decide), st b hb h4 3 (by decide) (by decide), st b hb h4 4 (by decide) (by decide)]
    exact hx
  · rw [hc, hcv 0 (by decide)]
    exact hi.2.2.2.2.2.2
/-- a whole commit: the new current root has the draft's directory, and what was left is freed with its count c -/
theorem INV_commit (hi : INV B p) (hd : HasDraft p) (hP : FreeOf c p P) (hr : RootOK P) (hcn : nowp P = nI (fdp p)) (hcc : gR P (cur P) 0 = c) (hlt : gR p (cur p) 0 < c) (hb : c.toInt ≤ B + 1) (hD : ∀ r v, r < 4 → v < 3 → gD P r v = gD p r v) (h6 : P 466 = 0) (h7 : P 467 = -1) : INV (B + 1) P := by
  obtain ⟨d1, d2, d3, d4, d5⟩ := hd
  have e45 : ∀ b, b < 32 → gB P b 4 = 0 ∧ gB P b 5 = 0 := fun b hb => by
    rw [hP b 4 hb (by decide), hP b 5 hb (by decide)]
    exact ⟨rfl, rfl⟩
  have ct0 : ∀ b, b < 32 → ∀ w, w < 14 → (w = 1 ∨ w = 2 ∨ 6 ≤ w) → gB P b w = gB p b w := fun b hb w hw hc => by
    rw [hP b w hb hw, if_neg (by omega)]
    split
    · rw [if_neg (by omega), if_neg (by omega)]
    · rfl
  have s0 : ∀ b, b < 32 → gB P b 0 = if gB p b 5 = 1 then 2 else gB p b 0 := fun b hb => by
    rw [hP b 0 hb (by decide), if_neg (by decide)]
    rfl
  have s3 : ∀ b, b < 32 → gB P b 3 = if gB p b 5 = 1 then c else gB p b 3 := fun b hb => by
    rw [hP b 3 hb (by decide), if_neg (by decide)]
    rfl
  have ecd : cd P = fdp p := by
    have q1 : (nowp P).toNatClampNeg = fdp p := by
      rw [hcn, nI_clamp (by have := d3.1; omega)]
    exact q1
  refine ⟨hr, fun b hb => ?_, ?_, fun r hr4 ho => ?_, Or.inl h6, Or.inl ⟨h7, e45⟩, by rw [hcc]; exact hb⟩
  · obtain ⟨z4, z5⟩ := e45 b hb
    rw [z4, z5, s0 b hb]
    refine ⟨?_, Or.inl rfl, Or.inl rfl, fun z => absurd z (by decide), fun z => absurd z (by decide)⟩
    split
    · exact Or.inr (Or.inr rfl)
    · exact (hi.2.1 b hb).1
  · obtain ⟨a1, a2⟩ := keepD (P := P) (Y := fun b => gB P b 0 = 1 ∧ gB P b 4 = 0) d3 d5 (fun b hb hx => by
      have e0 : gB P b 0 = 1 := by
        rw [s0 b hb, if_neg (by rw [hx.2]; decide)]
        exact hx.1
      exact ⟨ct0 b hb, ne0_1 e0, e0, (e45 b hb).1⟩)
    exact ⟨by rw [ecd]; exact hcn, by rw [ecd]; exact a1, by rw [ecd]; exact a2⟩
  · rw [hD r 0 hr4 (by decide)] at ho
    have hR := hi.2.2.2.1 r hr4 ho
    have hlt2 := Int32.lt_of_le_of_lt hR.2.2.2 hlt
    refine keepR hR (fun v hv => hD r v hr4 hv) (by rw [hcc]; exact Int32.le_of_lt hlt2) (fun b hb hx => ⟨ct0 b hb, ?_⟩)
    rw [s0 b hb, s3 b hb, (e45 b hb).1]
    by_cases c5 : gB p b 5 = 1
    · rw [if_pos c5, if_pos c5]
      exact Or.inr ⟨rfl, hlt2⟩
    · rw [if_neg c5, if_neg c5]
      rcases hx with z | z
      · exact Or.inl ⟨z.1, rfl⟩
      · exact Or.inr z
/-- beds, roots and readers are the same -/
def Lo (p P : Nat → Int32) : Prop := ∀ i, i < 466 → P i = p i
theorem Lo.gB (h : Lo p P) (hb : b < 32) (hw : w' < 14) : gB P b w' = gB p b w' := h _ (by omega)
theorem Lo.gR (h : Lo p P) {v : Nat} (hr : r < 2) (hv : v < 3) : gR P r v = gR p r v := h _ (by omega)
theorem Lo.gD (h : Lo p P) {v : Nat} (hr : r < 4) (hv : v < 3) : gD P r v = gD p r v := h _ (by omega)
theorem Lo.cur (h : Lo p P) : cur P = cur p := cur_cg (fun _ _ hr hv => h.gR hr hv)
theorem Lo.now (h : Lo p P) : nowp P = nowp p := by
  unfold nowp
  rw [h.cur, h.gR cur_lt (by decide)]
theorem Lo.need (h : Lo p P) : need P w = need p w := need_cg (fun _ _ hr hv => h.gR hr hv) (fun _ _ hr hv => h.gD hr hv) w
theorem INV_lo (hi : INV B p) (h : Lo p P) (h6 : P 466 = 0 ∨ P 466 = 1) (hd : NoDraft P ∨ HasDraft P) : INV B P := by
  obtain ⟨d1, d2, d3⟩ := hi.2.2.1
  refine ⟨⟨fun r hr => ?_, ?_, fun r hr => ?_⟩, fun b hb => ?_, ?_, fun r hr4 ho => ?_, h6, hd, ?_⟩
  · rw [h.gR hr (by decide), h.gR hr (by decide)]
    exact hi.1.1 r hr
  · rw [h.cur, h.gR cur_lt (by decide)]
    exact hi.1.2.1
  · rw [h.gD hr (by decide), h.gD hr (by decide)]
    exact hi.1.2.2 r hr
  · rw [h.gB hb (by decide), h.gB hb (by decide), h.gB hb (by decide)]
    exact hi.2.1 b hb
  · obtain ⟨a1, a2⟩ := keepD (P := P) (Y := fun b => gB P b 0 = 1 ∧ gB P b 4 = 0) d2 d3 (fun b hb hx => ⟨fun w hw hc => h.gB hb hw, by rw [h.gB hb (by decide)]; exact ne0_1 hx.1, by rw [h.gB hb (by decide), h.gB hb (by decide)]; exact hx⟩)
    exact ⟨by rw [h.now, cd_of h.now]; exact d1, by rw [cd_of h.now]; exact a1, by rw [cd_of h.now]; exact a2⟩
  · rw [h.gD hr4 (by decide)] at ho
    have hR := hi.2.2.2.1 r hr4 ho
    refine keepR hR (fun v hv => h.gD hr4 hv) (by rw [h.cur, h.gR cur_lt (by decide)]; exact hR.2.2.2) (fun b hb hx => ⟨fun w hw hc => h.gB hb hw, ?_⟩)
    rw [h.gB hb (by decide), h.gB hb (by decide), h.gB hb (by decide)]
    exact hx
  · rw [h.cur, h.gR cur_lt (by decide)]
    exact hi.2.2.2.2.2.2
/-- a reader is set: opened at the current root, or closed -/
theorem INV_reader (hi : INV B p) (hr4 : r < 4) (h : ∀ i, (i < 454 + 3 * r ∨ 454 + 3 * r + 3 ≤ i) → P i = p i) (hn : gD P r 0 = 0 ∨ (gD P r 0 = 1 ∧ gD P r 1 = gR p (cur p) 0 ∧ gD P r 2 = nowp p)) : INV B P := by
  obtain ⟨d1, d2, d3⟩ := hi.2.2.1
  have eB : ∀ b w, b < 32 → w < 14 → gB P b w = gB p b w := fun b w hb hw => h _ (by omega)
  have eR : ∀ r v, r < 2 → v < 3 → gR P r v = gR p r v := fun r v hr hv => h _ (by omega)
  have eD : ∀ t v, t < 4 → v < 3 → t ≠ r → gD P t v = gD p t v := fun t v ht hv hne => h _ (by omega)
  have ec : cur P = cur p := cur_cg eR
  have en : nowp P = nowp p := by
    unfold nowp
    rw [ec, eR _ _ cur_lt (by decide)]
  have hhi : ∀ i, 466 ≤ i → P i = p i := fun i hi2 => h i (by omega)
  obtain ⟨a1, a2⟩ := keepD (P := P) (Y := fun b => gB P b 0 = 1 ∧ gB P b 4 = 0) d2 d3 (fun b hb hx => ⟨fun w hw hc => eB b w hb hw, by rw [eB b 0 hb (by decide)]; exact ne0_1 hx.1, by rw [eB b 0 hb (by decide), eB b 4 hb (by decide)]; exact hx⟩)
  refine ⟨⟨fun t ht => ?_, ?_, fun t ht => ?_⟩, fun b hb => ?_, ⟨by rw [en, cd_of en]; exact d1, by rw [cd_of en]; exact a1, by rw [cd_of en]; exact a2⟩, fun t ht ho => ?_, by rw [hhi 466 (by decide)]; exact hi.2.2.2.2.1, ?_, ?_⟩
  · rw [eR t _ ht (by decide), eR t _ ht (by decide)]
    exact hi.1.1 t ht
  · rw [ec, eR _ _ cur_lt (by decide)]
    exact hi.1.2.1
  · by_cases c1 : t = r
    · rw [c1]
      rcases hn with z | z
      · rw [z]
        exact ⟨Or.inl rfl, fun y => absurd y (by decide)⟩
      · rw [z.1, z.2.1]
        exact ⟨Or.inr rfl, fun _ => (hi.1.1 _ cur_lt).2⟩
    · rw [eD t _ ht (by decide) c1, eD t _ ht (by decide) c1]
      exact hi.1.2.2 t ht
  · rw [eB b 0 hb (by decide), eB b 4 hb (by decide), eB b 5 hb (by decide)]
    exact hi.2.1 b hb
  · by_cases c1 : t = r
    · rw [c1] at ho ⊢
      rcases hn with z | z
      · rw [z] at ho
        exact absurd ho (by decide)
      · have er : rdp P r = cd p := by
          have q1 : (gD P r 2).toNatClampNeg = (nowp p).toNatClampNeg := by rw [z.2.2]
          exact q1
        obtain ⟨b1, b2⟩ := keepD (P := P) (Y := fun b => (gB P b 0 = 1 ∧ gB P b 4 = 0) ∨ (gB P b 0 = 2 ∧ gD P r 1 < gB P b 3)) d2 d3 (fun b hb hx => ⟨fun w hw hc => eB b w hb hw, by rw [eB b 0 hb (by decide)]; exact ne0_1 hx.1, Or.inl (by rw [eB b 0 hb (by decide), eB b 4 hb (by decide)]; exact hx)⟩)
        exact ⟨by rw [er, z.2.2]; exact d1, by rw [er]; exact b1, by rw [er]; exact b2, by rw [ec, eR _ 0 cur_lt (by decide), z.2.1]; exact Int32.le_refl _⟩
    · rw [eD t _ ht (by decide) c1] at ho
      have hR := hi.2.2.2.1 t ht ho
      refine keepR hR (fun v hv => eD t v ht hv c1) (by rw [ec, eR _ 0 cur_lt (by decide)]; exact hR.2.2.2) (fun b hb hx => ⟨fun w hw hc => eB b w hb hw, ?_⟩)
      rw [eB b 0 hb (by decide), eB b 4 hb (by decide), eB b 3 hb (by decide)]
      exact hx
  · rcases hi.2.2.2.2.2.1 with z | z
    · refine Or.inl ⟨by rw [hhi 467 (by decide)]; exact z.1, fun b hb => ?_⟩
      rw [eB b 4 hb (by decide), eB b 5 hb (by decide)]
      exact z.2 b hb
    · obtain ⟨z1, z2, z3, z4, z5⟩ := z
      have ef : fdp P = fdp p := by
        unfold fdp
        rw [hhi 467 (by decide)]
      obtain ⟨b1, b2⟩ := keepD (P := P) (Y := fun b => gB P b 0 = 1 ∧ gB P b 5 = 0) z3 z5 (fun b hb hx => ⟨fun w hw hc => eB b w hb hw, by rw [eB b 0 hb (by decide)]; exact ne0_1 hx.1, by rw [eB b 0 hb (by decide), eB b 5 hb (by decide)]; exact hx⟩)
      exact Or.inr ⟨by rw [hhi 466 (by decide)]; exact z1, by rw [ef, hhi 467 (by decide)]; exact z2, by rw [ef]; exact b1, by rw [ef, eB _ 4 z3.1 (by decide)]; exact z4, by rw [ef]; exact b2⟩
  · rw [ec, eR _ 0 cur_lt (by decide)]
    exact hi.2.2.2.2.2.2
end PINVB
