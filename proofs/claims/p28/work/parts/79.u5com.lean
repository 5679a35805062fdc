/-! PURE, commit on both sides -/
section PCOM
variable {q g : Nat} {m μ μ' : Mem} {p p' P Q : Nat → Int32} {l l' b b' w' n s k d d' f pl j i r a : Nat} {key val kind x w c v x0 x1 x2 : Int32} {B C : Int}
/-- the page with a root's three places set -/
def rtS (p : Nat → Int32) (a : Nat) (x2 x0 x1 : Int32) : Nat → Int32 := sS (sS (sS p (448 + 3 * a + 2) x2) (448 + 3 * a + 0) x0) (448 + 3 * a + 1) x1
theorem rtS_at : gR (rtS p a x2 x0 x1) a 0 = x0 ∧ gR (rtS p a x2 x0 x1) a 1 = x1 ∧ gR (rtS p a x2 x0 x1) a 2 = x2 := by
  refine ⟨?_, ?_, ?_⟩
  · show upd (upd (upd p _ x2) _ x0) _ x1 (448 + 3 * a + 0) = x0
    rw [upd_ne (by omega), upd_eq]
  · show upd (upd (upd p _ x2) _ x0) _ x1 (448 + 3 * a + 1) = x1
    rw [upd_eq]
  · show upd (upd (upd p _ x2) _ x0) _ x1 (448 + 3 * a + 2) = x2
    rw [upd_ne (by omega), upd_ne (by omega), upd_eq]
theorem rtS_ne (h : i < 448 + 3 * a ∨ 448 + 3 * a + 3 ≤ i) : rtS p a x2 x0 x1 i = p i := by
  show upd (upd (upd p _ x2) _ x0) _ x1 i = p i
  rw [upd_ne (by omega), upd_ne (by omega), upd_ne (by omega)]
theorem aix (v : Nat) {x : Int32} (e : x = nI v) : nI (448 + 3 * a) + x = nI (448 + 3 * a + v) := by rw [e, nI_add]
theorem aix0 (ha : a = 1 - cur p) : (448 : Int32) + 3 * (1 - nI (cur p)) = nI (448 + 3 * a) := by
  have hc := cur_lt (p := p)
  have hcc : cur p = 0 ∨ cur p = 1 := by omega
  rcases hcc with e | e
  · rw [ha, e]
    rfl
  · rw [ha, e]
    rfl
theorem onem (ha : a = 1 - cur p) : (1 : Int32) - nI (cur p) = nI a := by
  have hc := cur_lt (p := p)
  have hcc : cur p = 0 ∨ cur p = 1 := by omega
  rcases hcc with e | e
  · rw [ha, e]
    rfl
  · rw [ha, e]
    rfl
def vx0 (p : Nat → Int32) (a s : Nat) : Int32 := if s < 2 then gR p a 0 else gR p (cur p) 0 + 1
def vx1 (p : Nat → Int32) (a s : Nat) : Int32 := if s < 2 then gR p a 1 else p 467
def vx2 (p : Nat → Int32) (a s : Nat) : Int32 := if s = 0 then gR p a 2 else if s = 3 then 1 else 0
/-- the page behind a commit that is not whole -/
def lostP (p : Nat → Int32) (a : Nat) (x2 x0 x1 : Int32) : Nat → Int32 := sS (dMe (rtS p a x2 x0 x1)) 469 (p 469 + 1)
theorem lostP_hi (h : 448 ≤ i) : lostP p a x2 x0 x1 i = if i = 469 then p 469 + 1 else if i = 467 then -1 else if i = 466 then 0 else rtS p a x2 x0 x1 i := by
  show (if i = 469 then p 469 + 1 else dMe (rtS p a x2 x0 x1) i) = _
  rw [dMe_hi h]
theorem lostP_R (h : r < 2) {v : Nat} (hv : v < 3) : gR (lostP p a x2 x0 x1) r v = gR (rtS p a x2 x0 x1) r v := by
  show lostP p a x2 x0 x1 (448 + 3 * r + v) = _
  rw [lostP_hi (by omega), if_neg (by omega), if_neg (by omega), if_neg (by omega)]
  rfl
theorem lostP_D (ha : a < 2) (h : r < 4) {v : Nat} (hv : v < 3) : gD (lostP p a x2 x0 x1) r v = gD p r v := by
  show lostP p a x2 x0 x1 (454 + 3 * r + v) = _
  rw [lostP_hi (by omega), if_neg (by omega), if_neg (by omega), if_neg (by omega), rtS_ne (by omega)]
  rfl
theorem lostP_drop (ha : a < 2) : DropOf p (lostP p a x2 x0 x1) := fun b w hb hw => by
  have e : ∀ b w, b < 32 → w < 14 → gB (rtS p a x2 x0 x1) b w = gB p b w := fun b w hb hw => rtS_ne (by omega)
  show gB (sS (dMe (rtS p a x2 x0 x1)) 469 (p 469 + 1)) b w = _
  rw [gB_sS (by decide) hb hw, dMe_drop b w hb hw, e b 4 hb (by decide), e b w hb hw]
/-- the current root stays where the other one is torn, or as it was -/
theorem cur_torn (hr : RootOK p) (ha : a = 1 - cur p) (ec : ∀ v, v < 3 → gR P (cur p) v = gR p (cur p) v) (h2 : (gR P a 2 = gR p a 2 ∧ gR P a 0 = gR p a 0) ∨ gR P a 2 = 0) : cur P = cur p := by
  have hc := cur_lt (p := p)
  have hcp := hr.2.1
  have e0 := ec 0 (by decide)
  have e2 := ec 2 (by decide)
  have hcc : cur p = 0 ∨ cur p = 1 := by omega
  rcases h2 with ⟨z1, z2⟩ | z
  · have q1 : gR P 0 0 = gR p 0 0 ∧ gR P 1 0 = gR p 1 0 ∧ gR P 0 2 = gR p 0 2 ∧ gR P 1 2 = gR p 1 2 := by
      rcases hcc with e | e
      · have ea : a = 1 := by omega
        rw [e] at e0 e2
        rw [ea] at z1 z2
        exact ⟨e0, z2, e2, z1⟩
      · have ea : a = 0 := by omega
        rw [e] at e0 e2
        rw [ea] at z1 z2
        exact ⟨z2, e0, z1, e2⟩
    unfold cur
    rw [q1.1, q1.2.1, q1.2.2.1, q1.2.2.2]
  · rcases hcc with e | e
    · have ea : a = 1 := by omega
      rw [ea] at z
      rw [e]
      unfold cur
      rw [if_neg (fun y => by rw [z] at y; exact absurd y.1 (by decide))]
    · have ea : a = 0 := by omega
      rw [ea] at z
      rw [e] at e2 hcp ⊢
      unfold cur
      rw [if_pos ⟨e2.trans hcp, Or.inl z⟩]
theorem INV_lost (hi : INV B p) (ha : a = 1 - cur p) (h2 : (x2 = gR p a 2 ∧ x0 = gR p a 0) ∨ x2 = 0) (h0 : 0 ≤ x0) : INV B (lostP p a x2 x0 x1) := by
  have hc := cur_lt (p := p)
  have ha2 : a < 2 := by omega
  have hne : cur p ≠ a := by omega
  have ec : ∀ v, v < 3 → gR (lostP p a x2 x0 x1) (cur p) v = gR p (cur p) v := fun v hv => by
    rw [lostP_R hc hv]
    exact rtS_ne (by omega)
  have ea : gR (lostP p a x2 x0 x1) a 0 = x0 ∧ gR (lostP p a x2 x0 x1) a 2 = x2 := by
    rw [lostP_R ha2 (by decide), lostP_R ha2 (by decide)]
    exact ⟨rtS_at.1, rtS_at.2.2⟩
  have hcur : cur (lostP p a x2 x0 x1) = cur p := by
    refine cur_torn hi.1 ha ec ?_
    rw [ea.1, ea.2]
    exact h2
  refine INV_drop0 hi (lostP_drop ha2) ⟨fun r hr => ?_, ?_, fun r hr => ?_⟩ hcur ec (fun r v hr hv => lostP_D ha2 hr hv) ?_ ?_
  · by_cases c1 : r = a
    · rw [c1, ea.1, ea.2]
      refine ⟨?_, h0⟩
      rcases h2 with ⟨z1, z2⟩ | z
      · rw [z1]
        exact (hi.1.1 a ha2).1
      · exact Or.inl z
    · have c2 : r = cur p := by omega
      rw [c2, ec 2 (by decide), ec 0 (by decide)]
      exact hi.1.1 _ hc
  · rw [hcur, ec 2 (by decide)]
    exact hi.1.2.1
  · rw [lostP_D ha2 hr (by decide), lostP_D ha2 hr (by decide)]
    exact hi.1.2.2 r hr
  · rw [lostP_hi (by decide), if_neg (by decide), if_neg (by decide), if_pos rfl]
  · rw [lostP_hi (by decide), if_neg (by decide), if_pos rfl]
/-- the page behind a whole commit -/
def wholeQ (p : Nat → Int32) (a : Nat) : Nat → Int32 := sS (sS (rtS p a 0 (gR p (cur p) 0 + 1) (p 467)) (448 + 3 * a + 2) 1) 468 (p 468 + 1)
def wholeP (p : Nat → Int32) (a : Nat) : Nat → Int32 := fMe (gR p (cur p) 0 + 1) (wholeQ p a)
theorem wholeP_hi (h : 448 ≤ i) : wholeP p a i = if i = 467 then -1 else if i = 466 then 0 else if i = 468 then p 468 + 1 else if i = 448 + 3 * a + 2 then 1 else rtS p a 0 (gR p (cur p) 0 + 1) (p 467) i := by
  show fMe (gR p (cur p) 0 + 1) (wholeQ p a) i = _
  rw [fMe_hi h]
  rfl
theorem wholeP_ne (ha : a < 2) (h : r < 2) (hne : r ≠ a) {v : Nat} (hv : v < 3) : gR (wholeP p a) r v = gR p r v := by
  show wholeP p a (448 + 3 * r + v) = _
  rw [wholeP_hi (by omega), if_neg (by omega), if_neg (by omega), if_neg (by omega), if_neg (by omega), rtS_ne (by omega)]
  rfl
theorem wholeP_at (ha : a < 2) : gR (wholeP p a) a 0 = gR p (cur p) 0 + 1 ∧ gR (wholeP p a) a 1 = p 467 ∧ gR (wholeP p a) a 2 = 1 := by
  refine ⟨?_, ?_, ?_⟩
  · show wholeP p a (448 + 3 * a + 0) = _
    rw [wholeP_hi (by omega), if_neg (by omega), if_neg (by omega), if_neg (by omega), if_neg (by omega)]
    exact rtS_at.1
  · show wholeP p a (448 + 3 * a + 1) = _
    rw [wholeP_hi (by omega), if_neg (by omega), if_neg (by omega), if_neg (by omega), if_neg (by omega)]
    exact rtS_at.2.1
  · show wholeP p a (448 + 3 * a + 2) = _
    rw [wholeP_hi (by omega), if_neg (by omega), if_neg (by omega), if_neg (by omega), if_pos rfl]
theorem wholeP_D (ha : a < 2) (h : r < 4) {v : Nat} (hv : v < 3) : gD (wholeP p a) r v = gD p r v := by
  show wholeP p a (454 + 3 * r + v) = _
  rw [wholeP_hi (by omega), if_neg (by omega), if_neg (by omega), if_neg (by omega), if_neg (by omega), rtS_ne (by omega)]
  rfl
theorem wholeQ_gB (ha : a < 2) (hb : b < 32) (hw : w' < 14) : gB (wholeQ p a) b w' = gB p b w' := by
  unfold wholeQ
  rw [gB_sS (by decide) hb hw, gB_sS (by omega) hb hw]
  exact rtS_ne (by omega)
theorem wholeP_free (ha : a < 2) : FreeOf (gR p (cur p) 0 + 1) p (wholeP p a) := fun b w hb hw => by
  show gB (fMe (gR p (cur p) 0 + 1) (wholeQ p a)) b w = _
  rw [fMe_free b w hb hw, wholeQ_gB ha hb (by decide), wholeQ_gB ha hb hw]
theorem cnt_succ (hi : INV B p) (hB : B < 1000000) : gR p (cur p) 0 < gR p (cur p) 0 + 1 ∧ 0 ≤ gR p (cur p) 0 + 1 ∧ (gR p (cur p) 0 + 1).toInt ≤ B + 1 := by
  have h0 := (hi.1.1 (cur p) cur_lt).2
  have hb := hi.2.2.2.2.2.2
  obtain ⟨k, hk, e⟩ := nI_of (Int32.not_lt.mpr h0)
  rw [e, nI_toInt hk] at hb
  rw [e, nI_1]
  have hk2 : k + 1 < 2 ^ 31 := by omega
  refine ⟨nI_lt (by omega) hk2, nI_pos' hk2, ?_⟩
  rw [nI_toInt hk2]
  omega
theorem cur_whole (hi : INV B p) (hB : B < 1000000) (ha : a = 1 - cur p) : cur (wholeP p a) = a := by
  have hc := cur_lt (p := p)
  have ha2 : a < 2 := by omega
  obtain ⟨s1, s2, s3⟩ := cnt_succ hi hB
  obtain ⟨w1, w2, w3⟩ := wholeP_at (p := p) ha2
  have e0 := wholeP_ne (p := p) (r := cur p) ha2 hc (by omega) (v := 0) (by decide)
  have hcc : cur p = 0 ∨ cur p = 1 := by omega
  rcases hcc with e | e
  · have ea : a = 1 := by omega
    rw [e] at e0 s1
    rw [e, ea] at w1
    rw [ea] at w3 e0
    unfold cur
    rw [ea, if_pos ⟨w3, Or.inr (by rw [e0, w1]; exact s1)⟩]
  · have ea : a = 0 := by omega
    rw [e] at e0 s1
    rw [e, ea] at w1
    rw [ea] at w3 e0
    unfold cur
    rw [ea, if_neg (fun y => by
      rcases y.2 with y2 | y2
      · rw [w3] at y2
        exact absurd y2 (by decide)
      · rw [e0, w1] at y2
        exact Int32.lt_asymm y2 s1)]
theorem INV_whole (hi : INV B p) (hD : HasDraft p) (hB : B < 1000000) (ha : a = 1 - cur p) : INV (B + 1) (wholeP p a) := by
  have hc := cur_lt (p := p)
  have ha2 : a < 2 := by omega
  obtain ⟨s1, s2, s3⟩ := cnt_succ hi hB
  obtain ⟨w1, w2, w3⟩ := wholeP_at (p := p) ha2
  have hcw := cur_whole hi hB ha
  refine INV_commit hi hD (wholeP_free ha2) ⟨fun r hr => ?_, by rw [hcw]; exact w3, fun r hr => ?_⟩ ?_ (by rw [hcw]; exact w1) s1 s3 (fun r v hr hv => wholeP_D ha2 hr hv) ?_ ?_
  · by_cases c1 : r = a
    · rw [c1, w1, w3]
      exact ⟨Or.inr rfl, s2⟩
    · rw [wholeP_ne ha2 hr c1 (by decide), wholeP_ne ha2 hr c1 (by decide)]
      exact hi.1.1 r hr
  · rw [wholeP_D ha2 hr (by decide), wholeP_D ha2 hr (by decide)]
    exact hi.1.2.2 r hr
  · unfold nowp
    rw [hcw, w2]
    exact hD.2.1
  · rw [wholeP_hi (by decide), if_neg (by decide), if_pos rfl]
  · rw [wholeP_hi (by decide), if_pos rfl]
-- the class writes the root that is asleep
theorem RG.asleep (h : RG g μ p) (hi : INV B p) (hD : HasDraft p) (ha : a = 1 - cur p) (hs : s < 4) : ∃ μ2, f_X4_writeAsleepRoot g (nI s) μ = some μ2 ∧ (∀ z, z ≠ g + 11 → z ≠ g + 12 → z ≠ g + 13 → μ2 z = μ z) ∧ ∀ r, r < 2 → μ2 (g + 11) r = (if r = a then vx0 p a s else gR p r 0) ∧ μ2 (g + 12) r = (if r = a then (if vx1 p a s < 0 then -1000 else vx1 p a s) else (if gR p r 1 < 0 then -1000 else gR p r 1)) ∧ μ2 (g + 13) r = (if r = a then vx2 p a s else gR p r 2) := by
  have hc := cur_lt (p := p)
  have ha2 : a < 2 := by omega
  have hdb := h.dbed hi hD
  have h467 := hD.2.1
  have hfd := hD.2.2.1.1
  have n467 : ¬ p 467 < 0 := by rw [h467]; exact nI_nz (by omega)
  have c11 : ∀ (μ : Mem) (x : Int32), f_X6_setCell (g + 11) 2 (nI a) x μ = some (mst μ (g + 11) a x) := fun μ x => setCell_n ha2 (by decide)
  have c12 : ∀ (μ : Mem) (x : Int32), f_X6_setCell (g + 12) 2 (nI a) x μ = some (mst μ (g + 12) a x) := fun μ x => setCell_n ha2 (by decide)
  have c13 : ∀ (μ : Mem) (x : Int32), f_X6_setCell (g + 13) 2 (nI a) x μ = some (mst μ (g + 13) a x) := fun μ x => setCell_n ha2 (by decide)
  have hR := fun r hr => h.2.1 r hr
  unfold f_X4_writeAsleepRoot
  rw [h.currentRoot hi.1, Option.bind_some, h.curCountR hi.1, Option.bind_some, onem ha]
  unfold f_X4_writeAsleepRoot_b28 f_X4_writeAsleepRoot_b54 f_X4_writeAsleepRoot_b68
  have hcs : s = 0 ∨ s = 1 ∨ s = 2 ∨ s = 3 := by omega
  rcases hcs with rfl | rfl | rfl | rfl
  · rw [if_pos (by decide), if_pos (by decide), if_pos (by decide)]
    refine ⟨μ, rfl, fun _ _ _ _ => rfl, fun r hr => ?_⟩
    obtain ⟨r1, r2, r3⟩ := hR r hr
    rw [r1, r2, r3]
    by_cases c1 : r = a
    · rw [if_pos c1, if_pos c1, if_pos c1, c1]
      exact ⟨rfl, rfl, rfl⟩
    · rw [if_neg c1, if_neg c1, if_neg c1]
      exact ⟨rfl, rfl, rfl⟩
  · rw [if_neg (by decide), c13, Option.bind_some, if_pos (by decide), if_pos (by decide)]
    refine ⟨_, rfl, fun z z1 z2 z3 => mst_ne z3, fun r hr => ?_⟩
    obtain ⟨r1, r2, r3⟩ := hR r hr
    rw [mst_ne (by omega), mst_ne (by omega), mst_eq, r1, r2]
    by_cases c1 : r = a
    · rw [if_pos c1, if_pos c1, if_pos c1, c1, upd_eq]
      exact ⟨rfl, rfl, rfl⟩
    · rw [if_neg c1, if_neg c1, if_neg c1, upd_ne c1, r3]
      exact ⟨rfl, rfl, rfl⟩
  · rw [if_neg (by decide), c13, Option.bind_some, if_neg (by decide), mst_ne (by omega), hdb, c12, Option.bind_some, c11, Option.bind_some, if_pos (by decide)]
    refine ⟨_, rfl, fun z z1 z2 z3 => by rw [mst_ne z1, mst_ne z2, mst_ne z3], fun r hr => ?_⟩
    obtain ⟨r1, r2, r3⟩ := hR r hr
    rw [mst_eq, mst_ne (show g + 11 ≠ g + 12 by omega), mst_ne (show g + 11 ≠ g + 13 by omega), mst_ne (show g + 12 ≠ g + 11 by omega), mst_eq, mst_ne (show g + 12 ≠ g + 13 by omega), mst_ne (show g + 13 ≠ g + 11 by omega), mst_ne (show g + 13 ≠ g + 12 by omega), mst_eq]
    by_cases c1 : r = a
    · rw [if_pos c1, if_pos c1, if_pos c1, c1, upd_eq, upd_eq, upd_eq]
      refine ⟨rfl, ?_, rfl⟩
      show nI (fdp p) = if p 467 < 0 then -1000 else p 467
      rw [if_neg n467, h467]
    · rw [if_neg c1, if_neg c1, if_neg c1, upd_ne c1, upd_ne c1, upd_ne c1]
      exact ⟨r1, r2, r3⟩
  · rw [if_neg (by decide), c13, Option.bind_some, if_neg (by decide), mst_ne (by omega), hdb, c12, Option.bind_some, c11, Option.bind_some, if_neg (by decide), c13, Option.bind_some]
    refine ⟨_, rfl, fun z z1 z2 z3 => by rw [mst_ne z3, mst_ne z1, mst_ne z2, mst_ne z3], fun r hr => ?_⟩
    obtain ⟨r1, r2, r3⟩ := hR r hr
    rw [mst_ne (show g + 11 ≠ g + 13 by omega), mst_eq, mst_ne (show g + 11 ≠ g + 12 by omega), mst_ne (show g + 11 ≠ g + 13 by omega), mst_ne (show g + 12 ≠ g + 13 by omega), mst_ne (show g + 12 ≠ g + 11 by omega), mst_eq, mst_ne (show g + 12 ≠ g + 13 by omega), mst_eq, mst_ne (show g + 13 ≠ g + 11 by omega), mst_ne (show g + 13 ≠ g + 12 by omega), mst_eq]
    by_cases c1 : r = a
    · rw [if_pos c1, if_pos c1, if_pos c1, c1, upd_eq, upd_eq, upd_eq]
      refine ⟨rfl, ?_, rfl⟩
      show nI (fdp p) = if p 467 < 0 then -1000 else p 467
      rw [if_neg n467, h467]
    · rw [if_neg c1, if_neg c1, if_neg c1, upd_ne c1, upd_ne c1, upd_ne c1, upd_ne c1]
      exact ⟨r1, r2, r3⟩
theorem RG.commit3 (h : RG g μ p) (hi : INV B p) (hD : HasDraft p) (hB : B < 1000000) (ha : a = 1 - cur p) : ∃ μ', f_X4_commitDraft g (nI 3) μ = some (nI (nLeft p), μ') ∧ RG g μ' (wholeP p a) ∧ GFr g μ μ' := by
  have hc := cur_lt (p := p)
  have ha2 : a < 2 := by omega
  obtain ⟨μ2, a1, a2, a3⟩ := h.asleep hi hD ha (s := 3) (by decide)
  have hI := INV_whole hi hD hB ha
  obtain ⟨w1, w2, w3⟩ := wholeP_at (p := p) ha2
  have hcw := cur_whole hi hB ha
  have hRB2 : RB (g + 1) (mst μ2 g 8 (μ2 g 8 + 1)) p := h.1.fr (fun z z1 z2 => by rw [mst_ne (by omega)]; exact a2 z (by omega) (by omega) (by omega))
  obtain ⟨μ3, e3⟩ : ∃ μ3, μ3 = rst (mst μ2 g 8 (μ2 g 8 + 1)) (g + 1 + 5) (fun i => if i < 32 then 0 else mst μ2 g 8 (μ2 g 8 + 1) (g + 1 + 5) i) := ⟨_, rfl⟩
  have hRB3 : RB (g + 1) (mst (mst (mst μ2 g 8 (μ2 g 8 + 1)) g 6 0) g 7 (-1000)) p := hRB2.fr (fun z z1 z2 => by rw [mst_ne (by omega), mst_ne (by omega)])
  obtain ⟨μ4, e4⟩ : ∃ μ4, μ4 = mst (mst μ3 g 6 0) g 7 (-1000) := ⟨_, rfl⟩
  have e4' : μ4 = rst (mst (mst (mst μ2 g 8 (μ2 g 8 + 1)) g 6 0) g 7 (-1000)) (g + 1 + 5) (fun i => if i < 32 then 0 else mst (mst (mst μ2 g 8 (μ2 g 8 + 1)) g 6 0) g 7 (-1000) (g + 1 + 5) i) := by
    rw [e4, e3, mst_ne (show g + 1 + 5 ≠ g by omega) (j := 7), mst_ne (show g + 1 + 5 ≠ g by omega) (j := 6)]
    funext z
    by_cases c1 : z = g + 1 + 5
    · rw [c1, rst_eq, mst_ne (by omega), mst_ne (by omega), rst_eq]
    · rw [rst_ne c1]
      by_cases c2 : z = g
      · rw [c2, mst_eq, mst_eq, rst_ne (by omega), mst_eq, mst_eq, mst_eq, mst_eq]
      · rw [mst_ne c2, mst_ne c2, mst_ne c2, mst_ne c2, rst_ne c1]
  obtain ⟨μ5, b1, b2, b3⟩ := hRB3.freeLeft (c := gR p (cur p) 0 + 1) (P := wholeP p a) hi.2.1 (wholeP_free ha2) μ4 e4'
  have fr : ∀ z, z ≠ g → (z ≤ g + 1 ∨ g + 11 ≤ z) → μ5 z = μ2 z := fun z z1 z2 => by
    rw [b3 z (by omega), mst_ne z1, mst_ne z1, mst_ne z1]
  have fg : μ5 g = mst (mst (mst μ2 g 8 (μ2 g 8 + 1)) g 6 0) g 7 (-1000) g := b3 g (by omega)
  have mg : μ2 g = μ g := a2 g (by omega) (by omega) (by omega)
  have hG : RG g μ5 (wholeP p a) := by
    refine h.gone b2 (fun r hr => ?_) ?_ ?_ (fun r v hr hv => wholeP_D ha2 hr hv) ?_ ?_ ?_ ?_ ?_
    · rw [fr (g + 11) (by omega) (by omega), fr (g + 12) (by omega) (by omega), fr (g + 13) (by omega) (by omega), (a3 r hr).1, (a3 r hr).2.1, (a3 r hr).2.2]
      by_cases c1 : r = a
      · rw [if_pos c1, if_pos c1, if_pos c1, c1, w1, w2, w3]
        exact ⟨rfl, rfl, rfl⟩
      · rw [if_neg c1, if_neg c1, if_neg c1, wholeP_ne ha2 hr c1 (by decide), wholeP_ne ha2 hr c1 (by decide), wholeP_ne ha2 hr c1 (by decide)]
        exact ⟨rfl, rfl, rfl⟩
    · rw [fr (g + 14) (by omega) (by omega), a2 (g + 14) (by omega) (by omega) (by omega)]
    · rw [fr (g + 15) (by omega) (by omega), a2 (g + 15) (by omega) (by omega) (by omega)]
    · rw [fg, mst_eq, upd_ne (by decide), mst_eq, upd_eq]
    · rw [fg, mst_eq, upd_eq]
    · rw [wholeP_hi (by decide), if_neg (by decide), if_pos rfl]
    · rw [fg, mst_eq, upd_ne (by decide), mst_eq, upd_ne (by decide), mst_eq, upd_eq, wholeP_hi (by decide), if_neg (by decide), if_neg (by decide), if_pos rfl, mg, h.2.2.2.2.2.1]
    · rw [fg, mst_eq, upd_ne (by decide), mst_eq, upd_ne (by decide), mst_eq, upd_ne (by decide), wholeP_hi (by decide), if_neg (by decide), if_neg (by decide), if_neg (by decide), if_neg (by omega), mg, rtS_ne (by omega)]
      exact h.2.2.2.2.2.2
  refine ⟨μ5, ?_, hG, fun k hk => (fr k (by omega) (by omega)).trans (a2 k (by omega) (by omega) (by omega))⟩
  have hfr : f_X1_isFresh (g + 1) (μ g 7) μ = some 1 := by
    rw [h.dbed hi hD, h.fresh hD.2.2.1.1, hD.2.2.2.1]
    rfl
  have hcc : f_X4_currentCount g μ4 = some (gR p (cur p) 0 + 1) := by
    have e : ∀ z, g + 11 ≤ z → μ4 z = μ5 z := fun z hz => by
      rw [fr z (by omega) (by omega), e4, mst_ne (by omega), mst_ne (by omega), e3, rst_ne (by omega), mst_ne (by omega)]
    rw [curCount_cg (μ := μ5) (e _ (by omega)) (e _ (by omega)), hG.curCountR hI.1, hcw, w1]
  unfold f_X4_commitDraft f_X1_keepFresh f_X4_endDraft pf
  rw [hfr, Option.bind_some, if_neg (by decide), a1, Option.bind_some, if_pos (by decide), Option.bind_some, fillRow_n (by decide), Option.bind_some, ← e3, Option.bind_some, Option.bind_some, Option.bind_some, Option.bind_some, ← e4, hcc, Option.bind_some, b1, bn2_some]
theorem RG.commitL (h : RG g μ p) (hi : INV B p) (hD : HasDraft p) (ha : a = 1 - cur p) (hs : s < 3) : ∃ μ', f_X4_commitDraft g (nI s) μ = some (-1000, μ') ∧ RG g μ' (lostP p a (vx2 p a s) (vx0 p a s) (vx1 p a s)) ∧ GFr g μ μ' := by
  have hc := cur_lt (p := p)
  have ha2 : a < 2 := by omega
  obtain ⟨μ2, a1, a2, a3⟩ := h.asleep hi hD ha (s := s) (by omega)
  have hRB : RB (g + 1) (mst (mst (mst μ2 g 9 (μ2 g 9 + 1)) g 6 0) g 7 (-1000)) p := h.1.fr (fun z z1 z2 => by rw [mst_ne (by omega), mst_ne (by omega), mst_ne (by omega)]; exact a2 z (by omega) (by omega) (by omega))
  obtain ⟨μ5, b1, b2, b3⟩ := hRB.dropFresh hi.f5 (fun b hb => (hi.2.1 b hb).2.1) (lostP_drop (x2 := vx2 p a s) (x0 := vx0 p a s) (x1 := vx1 p a s) ha2)
  have fr : ∀ z, z ≠ g → (z ≤ g + 1 ∨ g + 11 ≤ z) → μ5 z = μ2 z := fun z z1 z2 => by
    rw [b3 z (by omega), mst_ne z1, mst_ne z1, mst_ne z1]
  have fg : μ5 g = mst (mst (mst μ2 g 9 (μ2 g 9 + 1)) g 6 0) g 7 (-1000) g := b3 g (by omega)
  have mg : μ2 g = μ g := a2 g (by omega) (by omega) (by omega)
  refine ⟨μ5, ?_, h.gone b2 (fun r hr => ?_) ?_ ?_ (fun r v hr hv => lostP_D ha2 hr hv) ?_ ?_ ?_ ?_ ?_, fun k hk => (fr k (by omega) (by omega)).trans (a2 k (by omega) (by omega) (by omega))⟩
  · have hfr : f_X1_isFresh (g + 1) (μ g 7) μ = some 1 := by
      rw [h.dbed hi hD, h.fresh hD.2.2.1.1, hD.2.2.2.1]
      rfl
    unfold f_X4_commitDraft f_X4_dropDraft f_X4_endDraft pf
    rw [hfr, Option.bind_some, if_neg (by decide), a1, Option.bind_some, if_neg (nlI (c := 3) 3 s rfl hs (by decide)), Option.bind_some, Option.bind_some, Option.bind_some, Option.bind_some, b1, bn2_some, bn2_some]
  · rw [fr (g + 11) (by omega) (by omega), fr (g + 12) (by omega) (by omega), fr (g + 13) (by omega) (by omega), (a3 r hr).1, (a3 r hr).2.1, (a3 r hr).2.2, lostP_R hr (by decide), lostP_R hr (by decide), lostP_R hr (by decide)]
    by_cases c1 : r = a
    · rw [if_pos c1, if_pos c1, if_pos c1, c1, rtS_at.1, rtS_at.2.1, rtS_at.2.2]
      exact ⟨rfl, rfl, rfl⟩
    · have e : ∀ v, v < 3 → gR (rtS p a (vx2 p a s) (vx0 p a s) (vx1 p a s)) r v = gR p r v := fun v hv => rtS_ne (by omega)
      rw [if_neg c1, if_neg c1, if_neg c1, e 0 (by decide), e 1 (by decide), e 2 (by decide)]
      exact ⟨rfl, rfl, rfl⟩
  · rw [fr (g + 14) (by omega) (by omega), a2 (g + 14) (by omega) (by omega) (by omega)]
  · rw [fr (g + 15) (by omega) (by omega), a2 (g + 15) (by omega) (by omega) (by omega)]
  · rw [fg, mst_eq, upd_ne (by decide), mst_eq, upd_eq]
  · rw [fg, mst_eq, upd_eq]
  · rw [lostP_hi (by decide), if_neg (by decide), if_neg (by decide), if_pos rfl]
  · rw [fg, mst_eq, upd_ne (by decide), mst_eq, upd_ne (by decide), mst_eq, upd_ne (by decide), lostP_hi (by decide), if_neg (by decide), if_neg (by decide), if_neg (by decide), mg, rtS_ne (by omega)]
    exact h.2.2.2.2.2.1
  · rw [fg, mst_eq, upd_ne (by decide), mst_eq, upd_ne (by decide), mst_eq, upd_eq, lostP_hi (by decide), if_pos rfl, mg, h.2.2.2.2.2.2]
end PCOM
