/-! p28, PURE: the steps of a change at explicit pages, the class alone -/
section PYEXP
variable {q g : Nat} {m μ μ' : Mem} {p p' P : Nat → Int32} {l b b' w' n s k d f pl j i : Nat} {key val kind x w : Int32} {B : Int}
theorem RG.newLeafX (h : RG g μ p) (hi : INV B p) (hd : HasDraft p) (hz : nB p (fdp p) 2 = 0) (hm : 1 ≤ many p) : ∃ (b : Nat) (μ1 μ2 μ3 : Mem), nxt p = some b ∧ f_X4_dig g 0 μ = some (nI b, μ1) ∧ f_X1_insertEntry (g + 1) (nI b) key val μ1 = some μ2 ∧ μ2 g 7 = nI (fdp p) ∧ f_X1_insertLeaf (g + 1) (nI (fdp p)) 0 (nI b) μ2 = some μ3 ∧ RG g μ3 (inL (inE (dgB p b 0) b 0 key val 0) (fdp p) 0 (0 - 0) (nI b) 0) ∧ GFr g μ μ3 ∧ INV B (inL (inE (dgB p b 0) b 0 key val 0) (fdp p) 0 (0 - 0) (nI b) 0) := by
  obtain ⟨b, hn⟩ := nxt_some (p := p) (by omega)
  have hb := nxt_lt hn
  obtain ⟨f1, f2, f3⟩ := nxt_free hi hn
  have hd0 := hd
  obtain ⟨d1, d2, d3, d4, d5⟩ := hd0
  have hdb := h.dbed hi hd
  have hbd : fdp p ≠ b := fun z => f1 (by rw [← z]; exact d5.1.1)
  obtain ⟨e0, e1, e2, e3, e4, e5⟩ := dgB_eq (p := p) (b := b) (kind := 0)
  obtain ⟨μ1, a1, a2, a3⟩ := h.dig (kind := 0) hi.1 hn f2
  obtain ⟨μ2, b1, b2, b3⟩ := a2.1.insertEntryR (key := key) (val := val) (n := 0) hb (by rw [e0]; decide) e1 e2 (by decide)
  obtain ⟨o1, o2, o3, o4⟩ := inE_ok (p := dgB p b 0) (l := b) (n := 0) (key := key) (val := val) hb (by rw [e0]; decide) e1 (by decide) (fun i j _ hj => absurd hj (Nat.not_lt_zero j)) (fun i hi2 => absurd hi2 (Nat.not_lt_zero i))
  have od : ∀ w, w < 14 → gB (inE (dgB p b 0) b 0 key val 0) (fdp p) w = gB p (fdp p) w := fun w hw => (o2 _ w hw (Or.inl hbd)).trans (dgB_ne hbd hw)
  have d2n : gB (inE (dgB p b 0) b 0 key val 0) (fdp p) 2 = nI 0 := by
    rw [od 2 (by decide), d3.2.2.2.1, hz]
  obtain ⟨μ3, c1, c2, c3⟩ := b2.insertLeafR (x := nI b) (pl := 0) (n := 0) d3.1 (by rw [od 0 (by decide), d5.1.1]; decide) (by rw [od 1 (by decide)]; exact d3.2.2.1) d2n (Nat.le_refl _) (by decide)
  have hI := INV_ins (pl := 0) (P := inE (dgB p b 0) b 0 key val 0) hi hd hn (by omega) (by omega) ((dgB_same hb).tr o3) (fun b' w hb' h1 h2 => o2 b' w (by omega) (Or.inr ⟨h1, h2⟩)) (fun b' hb' h1 h2 w hw => (o2 b' w hw (Or.inl h2)).trans (dgB_ne h2 hw)) od (fun i hi2 => by rw [hz] at hi2; exact absurd hi2 (Nat.not_lt_zero i)) o1
  rw [hz] at hI
  have hsm : Same p (inL (inE (dgB p b 0) b 0 key val 0) (fdp p) 0 (0 - 0) (nI b) 0) := ((dgB_same hb).tr o3).tr (inL_spec (p := inE (dgB p b 0) b 0 key val 0) (pl := 0) (m := 0) (n := 0) (x := nI b) d3.1 rfl (by decide)).2.2.2
  exact ⟨b, μ1, μ2, μ3, hn, a1, b1, by rw [b3 g (by omega), a3 g (by omega)]; exact hdb, c1, h.beds hsm c2 ((a3.tr b3).tr c3), ((a3.tr b3).tr c3).gfr, hI⟩

theorem RG.splitLX (h : RG g μ p) (hi : INV B p) (hd : HasDraft p) (hk : k < nB p (fdp p) 2) (hl : nB p (fdp p) (6 + k) = l) (h41 : gB p l 4 = 1) (h4 : nB p l 2 = 4) (hne : ein p l key = none) (h6 : nB p (fdp p) 2 < 6) (hm : 1 ≤ many p) : ∃ (b : Nat) (μ0 μ1 μ2 μ3 : Mem), nxt p = some b ∧ f_X1_insertEntry (g + 1) (nI l) key val μ = some μ0 ∧ f_X1_sizeOf (g + 1) (nI l) μ0 = some (nI 5) ∧ f_X4_dig g 0 μ0 = some (nI b, μ1) ∧ f_X1_splitLeaf (g + 1) (nI l) (nI b) μ1 = some μ2 ∧ μ2 g 7 = nI (fdp p) ∧ f_X1_insertLeaf (g + 1) (nI (fdp p)) (nI (k + 1)) (nI b) μ2 = some μ3 ∧ RG g μ3 (inL (spB p l b (spos p l key) key val (dgB p b 0)) (fdp p) (k + 1) (nB p (fdp p) 2 - (k + 1)) (nI b) (nB p (fdp p) 2)) ∧ GFr g μ μ3 ∧ INV B (inL (spB p l b (spos p l key) key val (dgB p b 0)) (fdp p) (k + 1) (nB p (fdp p) 2 - (k + 1)) (nI b) (nB p (fdp p) 2)) := by
  obtain ⟨b, hn⟩ := nxt_some (p := p) (by omega)
  have hb := nxt_lt hn
  obtain ⟨f1, f2, f3⟩ := nxt_free hi hn
  have hd0 := hd
  obtain ⟨d1, d2, d3, d4, d5⟩ := hd0
  have hdb := h.dbed hi hd
  have hbd : fdp p ≠ b := fun z => f1 (by rw [← z]; exact d5.1.1)
  obtain ⟨g1, g2, g3, g4, g5, g6⟩ := hd.leafs hk
  rw [hl] at g1 g2 g3 g4 g5 g6
  have hbl : l ≠ b := fun z => f1 (by rw [← z]; exact g3)
  have hz := ein_none hne
  rw [h4] at hz
  obtain ⟨μ0, a1, a2, a3, a4, a5⟩ := h.1.insert5 (val := val) g2 h4 hne
  have hG := h.beds (p5_same g1) a2 a3
  have hdg := p5_dg (p := p) (l := l) (s := spos p l key) (key := key) (val := val) g1
  have hr5 : RootOK (p5 p l (spos p l key) key val) := by
    have hs := hdg.1
    refine ⟨fun r hr => ?_, ?_, fun r hr => ?_⟩
    · rw [hs.gRe, hs.gRe]; exact hi.1.1 r hr
    · rw [hs.cureq, hs.gRe]; exact hi.1.2.1
    · rw [hs.gDe, hs.gDe]; exact hi.1.2.2 r hr
  obtain ⟨μ1, b1, b2, b3, b4, b5⟩ := hG.dig78 (kind := 0) hr5 (by rw [hdg.nxtEq]; exact hn) (by rw [p5_oth (by decide) (Or.inr ⟨by decide, by decide⟩)]; exact f2)
  obtain ⟨μ2, c1, c2, c3⟩ := b2.1.split5 (b := b) g2 hb hbl (by rw [b4]; exact a4) (by rw [b5]; exact a5)
  have lo : ∀ b' w, w < 6 → w ≠ 2 → gB (spB p l b (spos p l key) key val (dgB p b 0)) b' w = gB (dgB p b 0) b' w := fun b' w h1 h2 => spB_oth (by omega) (Or.inr ⟨h1, h2⟩)
  have ot : ∀ b' w, w < 14 → b' ≠ l → b' ≠ b → gB (spB p l b (spos p l key) key val (dgB p b 0)) b' w = gB p b' w := fun b' w hw h1 h2 => (spB_oth hw (Or.inl ⟨h1, h2⟩)).trans (dgB_ne h2 hw)
  have od : ∀ w, w < 14 → gB (spB p l b (spos p l key) key val (dgB p b 0)) (fdp p) w = gB p (fdp p) w := fun w hw => ot _ w hw g5.symm hbd
  have d2n : gB (spB p l b (spos p l key) key val (dgB p b 0)) (fdp p) 2 = nI (nB p (fdp p) 2) := by
    rw [od 2 (by decide)]
    exact d3.2.2.2.1
  obtain ⟨μ3, e1, e2, e3⟩ := c2.insertLeafR (x := nI b) (pl := k + 1) (n := nB p (fdp p) 2) d3.1 (by rw [od 0 (by decide), d5.1.1]; decide) (by rw [od 1 (by decide)]; exact d3.2.2.1) d2n (by omega) h6
  have hs1 : Same p (spB p l b (spos p l key) key val (dgB p b 0)) := (dgB_same hb).tr (spB_same g1 hb)
  have Ll : LeafOK (spB p l b (spos p l key) key val (dgB p b 0)) l := LeafOK.mk 3 (spK p l (spos p l key) key) g1 (by rw [lo l 0 (by decide) (by decide), dgB_ne hbl (by decide)]; exact g2.2.1) (by rw [lo l 1 (by decide) (by decide), dgB_ne hbl (by decide)]; exact g2.2.2.1) (spB_2l hbl) (by decide) (by decide) (fun i hi2 => (spB_kl hbl hi2).1) (fun i j hij hj => spK_lt g2 h4 hz hij (by omega))
  have Lb : LeafOK (spB p l b (spos p l key) key val (dgB p b 0)) b := LeafOK.mk 2 (fun j => spK p l (spos p l key) key (3 + j)) hb (by rw [lo b 0 (by decide) (by decide), dgB_eq.1]; decide) (by rw [lo b 1 (by decide) (by decide)]; exact dgB_eq.2.1) spB_2b (by decide) (by decide) (fun i hi2 => (spB_kb hi2).1) (fun i j hij hj => spK_lt g2 h4 hz (by omega) (by omega))
  have hI := INV_ins (pl := k + 1) (P := spB p l b (spos p l key) key val (dgB p b 0)) hi hd hn (by omega) h6 hs1 (fun b' w hb' h1 h2 => lo b' w h1 h2) (fun b' hb' h1 h2 w hw => ot b' w hw (fun z => by rw [z, h41] at h1; exact absurd h1 (by decide)) h2) od (fun i hi2 => by
    by_cases c : nB p (fdp p) (6 + i) = l
    · rw [c]
      exact Ll
    · obtain ⟨t1, t2, t3, t4, t5, t6⟩ := hd.leafs hi2
      exact t2.cgc (fun w hw _ => ot _ w hw c (fun z => f1 (by rw [← z]; exact t3)))) Lb
  have hsm := hs1.tr (inL_spec (p := spB p l b (spos p l key) key val (dgB p b 0)) (pl := k + 1) (m := nB p (fdp p) 2 - (k + 1)) (n := nB p (fdp p) 2) (x := nI b) d3.1 (by omega) h6).2.2.2
  refine ⟨b, μ0, μ1, μ2, μ3, hn, a1, ?_, b1, c1, by rw [c3 g (by omega), b3 g (by omega), a3 g (by omega)]; exact hdb, e1, h.beds hsm e2 (((a3.tr b3).tr c3).tr e3), (((a3.tr b3).tr c3).tr e3).gfr, hI⟩
  rw [a2.size g1 (by rw [p5_oth (by decide) (Or.inr ⟨by decide, by decide⟩)]; exact g2.2.1), p5_2]

theorem RG.insEX (h : RG g μ p) (hi : INV B p) (hd : HasDraft p) (hk : k < nB p (fdp p) 2) (hl : nB p (fdp p) (6 + k) = l) (h41 : gB p l 4 = 1) (h4 : nB p l 2 < 4) (hne : ein p l key = none) : ∃ (μ1 : Mem), f_X1_insertEntry (g + 1) (nI l) key val μ = some μ1 ∧ f_X1_sizeOf (g + 1) (nI l) μ1 = some (nI (nB p l 2 + 1)) ∧ RG g μ1 (inE p l (nB p l 2) key val (nB p l 2)) ∧ GFr g μ μ1 ∧ INV B (inE p l (nB p l 2) key val (nB p l 2)) := by
  obtain ⟨g1, g2, g3, g4, g5, g6⟩ := hd.leafs hk
  rw [hl] at g1 g2 g3 g4 g5 g6
  obtain ⟨μ1, a1, a2, a3⟩ := h.1.insertEntryR (key := key) (val := val) g1 g2.2.1 g2.2.2.1 g2.2.2.2.1 h4
  obtain ⟨o1, o2, o3, o4⟩ := inE_ok (val := val) g1 g2.2.1 g2.2.2.1 h4 g2.2.2.2.2.2.2 (ein_none hne)
  refine ⟨μ1, a1, ?_, h.beds o3 a2 a3, a3.gfr, INV_leaf hi hd hk hl h41 o3 (fun b hb hne2 w hw => o2 b w hw (Or.inl hne2)) (fun w h1 h2 => o2 l w (by omega) (Or.inr ⟨h1, h2⟩)) o1⟩
  rw [a2.size g1 (by rw [o2 l 0 (by decide) (Or.inr ⟨by decide, by decide⟩)]; exact g2.2.1), o4]

theorem RG.setVX (h : RG g μ p) (hi : INV B p) (hd : HasDraft p) (hk : k < nB p (fdp p) 2) (hl : nB p (fdp p) (6 + k) = l) (h41 : gB p l 4 = 1) (he : ein p l key = some i) : ∃ (μ1 : Mem), f_X1_setEntry (g + 1) (nI l) (nI i) key val μ = some μ1 ∧ RG g μ1 (setE p l i key val) ∧ GFr g μ μ1 ∧ INV B (setE p l i key val) := by
  obtain ⟨g1, g2, g3, g4, g5, g6⟩ := hd.leafs hk
  rw [hl] at g1 g2 g3 g4 g5 g6
  obtain ⟨z1, z2⟩ := ein_lt he
  have h4 := g2.2.2.2.2.2.1
  have hL : LeafOK (setE p l i key val) l := LeafOK.mk (nB p l 2) (fun j => gB p l (6 + 2 * j)) g1 (by rw [setE_lo (by omega) (by decide)]; exact g2.2.1) (by rw [setE_lo (by omega) (by decide)]; exact g2.2.2.1) (by rw [setE_lo (by omega) (by decide)]; exact g2.2.2.2.1) g2.2.2.2.2.1 h4 (fun j hj => by
    rw [(setE_k (by omega) (show j < 4 by omega)).1]
    by_cases c : j = i
    · rw [if_pos c, c, z2]
    · rw [if_neg c]) g2.2.2.2.2.2.2
  exact ⟨_, setEntryC_n g1 (by omega), h.beds (setE_same g1 (by omega)) (h.1.setEntR g1 g2.2.2.1 (by omega)) ((Fr.mst (by omega) (by omega)).tr (Fr.mst (by omega) (by omega))), ((Fr.mst (by omega) (by omega)).tr (Fr.mst (by omega) (by omega))).gfr, INV_leaf hi hd hk hl h41 (setE_same g1 (by omega)) (fun b hb hne w hw => setE_ne (by omega) hw hne) (fun w h1 h2 => setE_lo (by omega) h1) hL⟩

theorem RG.cutEX (h : RG g μ p) (hi : INV B p) (hd : HasDraft p) (hk : k < nB p (fdp p) 2) (hl : nB p (fdp p) (6 + k) = l) (h41 : gB p l 4 = 1) (h2 : 2 ≤ nB p l 2) (hii : i < nB p l 2) : ∃ (μ1 : Mem), f_X1_cutEntry (g + 1) (nI l) (nI i) μ = some μ1 ∧ RG g μ1 (sB (ctE l (nB p l 2 - 1 - i) i p) l 2 (nI (nB p l 2 - 1))) ∧ GFr g μ μ1 ∧ INV B (sB (ctE l (nB p l 2 - 1 - i) i p) l 2 (nI (nB p l 2 - 1))) := by
  obtain ⟨g1, g2, g3, g4, g5, g6⟩ := hd.leafs hk
  rw [hl] at g1 g2 g3 g4 g5 g6
  have h4 := g2.2.2.2.2.2.1
  obtain ⟨o1, o2, o3⟩ := cutE_ok g2 hii rfl h2
  obtain ⟨μ1, a1, a2, a3⟩ := cutEntryC g1 (nB p l 2 - 1 - i) i FU μ p (nB p l 2) (by unfold FU; omega) h.1 g2.2.1 g2.2.2.1 (h.1.eqE g2) (by omega) h4
  refine ⟨μ1, ?_, h.beds o3 a2 a3, a3.gfr, INV_leaf hi hd hk hl h41 o3 (fun b hb hne2 w hw => o2 b w hw (Or.inl hne2)) (fun w z1 z2 => o2 l w (by omega) (Or.inr ⟨z1, z2⟩)) o1⟩
  unfold f_X1_cutEntry
  rw [h.1.size g1 g2.2.1, Option.bind_some, g2.2.2.2.1]
  exact a1

theorem RG.dropLX (h : RG g μ p) (hi : INV B p) (hd : HasDraft p) (hk : k < nB p (fdp p) 2) (hl : nB p (fdp p) (6 + k) = l) : ∃ (μ1 μ2 : Mem), f_X1_cutLeaf (g + 1) (nI (fdp p)) (nI k) μ = some μ1 ∧ f_X1_leave (g + 1) (nI l) μ1 = some μ2 ∧ RG g μ2 (cuL (lvB p l) (fdp p) k (nB p (fdp p) 2)) ∧ GFr g μ μ2 ∧ INV B (cuL (lvB p l) (fdp p) k (nB p (fdp p) 2)) ∧ ∀ b' w', b' < 32 → w' < 14 → gB (cuL (lvB p l) (fdp p) k (nB p (fdp p) 2)) b' w' = gB (lvB (cuL p (fdp p) k (nB p (fdp p) 2)) l) b' w' := by
  obtain ⟨g1, g2, g3, g4, g5, g6⟩ := hd.leafs hk
  rw [hl] at g1 g2 g3 g4 g5 g6
  have hd0 := hd
  obtain ⟨d1, d2, d3, d4, d5⟩ := hd0
  have h6 := d3.2.2.2.2.1
  obtain ⟨a1, a2, a3, a4⟩ := cuL_spec (p := p) (d := fdp p) d3.1 hk h6
  obtain ⟨μ1, b1, b2, b3⟩ := cutLeafC d3.1 (nB p (fdp p) 2 - 1 - k) k FU μ p (nB p (fdp p) 2) (by unfold FU; omega) h.1 d3.2.1 d3.2.2.1 (h.1.eqL d3) (by omega) h6
  have b2' : RB (g + 1) μ1 (cuL p (fdp p) k (nB p (fdp p) 2)) := b2
  obtain ⟨μ2, c1, c2, c3⟩ := b2'.leave g1 (fun _ => by rw [a1 l 5 (by decide) (Or.inl g5)]; exact g4)
  have ed2 : gB (lvB p l) (fdp p) 2 = nI (nB p (fdp p) 2) := by
    rw [lvB_gB (by decide)]
    split
    · rw [if_neg g5.symm]; exact d3.2.2.2.1
    · rw [if_neg (fun z => g5 z.1.symm)]; exact d3.2.2.2.1
  obtain ⟨z1, z2, z3, z4⟩ := cuL_spec (p := lvB p l) (d := fdp p) d3.1 hk h6
  have comm : ∀ b' w', b' < 32 → w' < 14 → gB (cuL (lvB p l) (fdp p) k (nB p (fdp p) 2)) b' w' = gB (lvB (cuL p (fdp p) k (nB p (fdp p) 2)) l) b' w' := fun b' w' hb' hw => by
    have e4 : gB (cuL p (fdp p) k (nB p (fdp p) 2)) l 4 = gB p l 4 := a1 l 4 (by decide) (Or.inl g5)
    by_cases c : b' = fdp p
    · have ld : ∀ w, w < 14 → gB (lvB p l) (fdp p) w = gB p (fdp p) w := fun w hw => by
        rw [lvB_gB hw]
        split
        · rw [if_neg g5.symm]
        · rw [if_neg (fun z => g5 z.1.symm)]
      have ld2 : gB (lvB (cuL p (fdp p) k (nB p (fdp p) 2)) l) (fdp p) w' = gB (cuL p (fdp p) k (nB p (fdp p) 2)) (fdp p) w' := by
        rw [lvB_gB hw]
        split
        · rw [if_neg g5.symm]
        · rw [if_neg (fun z => g5 z.1.symm)]
      rw [c, ld2]
      have es : ∀ (m k : Nat) (p p' : Nat → Int32), k + m < 6 → (∀ w, w < 14 → gB p' (fdp p) w = gB p (fdp p) w) → True := fun _ _ _ _ _ _ => trivial
      by_cases c6 : w' < 6 ∧ w' ≠ 2
      · rw [z1 _ w' hw (Or.inr c6), a1 _ w' hw (Or.inr c6), ld w' hw]
      · by_cases c2 : w' = 2
        · rw [c2, z2, a2]
        · obtain ⟨i, hi2⟩ : ∃ i, w' = 6 + i := ⟨w' - 6, by omega⟩
          rw [hi2]
          unfold cuL
          rw [gB_sB (by decide) (by omega), if_neg (by omega), gB_sB (by decide) (by omega), if_neg (by omega)]
          by_cases c7 : i < 6
          · rw [(ctL_spec (d := fdp p) _ _ _ (by omega)).2 i c7, (ctL_spec (d := fdp p) _ _ _ (by omega)).2 i c7]
            split
            · exact ld _ (by omega)
            · exact ld _ (by omega)
          · have hh : ∀ (m k : Nat) (p : Nat → Int32) (d : Nat), k + m < 6 → gB (ctL d m k p) d (6 + i) = gB p d (6 + i) := by
              intro m
              induction m with
              | zero => intro k p d _; rfl
              | succ m ih =>
                intro k p d hkm
                show gB (ctL d m (k + 1) (sB p d (6 + k) (gB p d (6 + (k + 1))))) d (6 + i) = _
                rw [ih (k + 1) _ d (by omega), gB_sB (by omega) (by omega), if_neg (by omega)]
            rw [hh _ _ _ _ (by omega), hh _ _ _ _ (by omega)]
            exact ld _ (by omega)
    · rw [z1 b' w' hw (Or.inl c), lvB_gB hw, lvB_gB hw, e4, a1 b' w' hw (Or.inl c)]
  have hsm : Same p (cuL (lvB p l) (fdp p) k (nB p (fdp p) 2)) := (lvB_same g1).tr z4
  have hI := INV_drop hi hd hk hl hsm comm
  refine ⟨μ1, μ2, ?_, c1, h.beds hsm (c2.cg comm) (b3.tr c3), (b3.tr c3).gfr, hI.1, comm⟩
  unfold f_X1_cutLeaf
  rw [h.1.size d3.1 d3.2.1, Option.bind_some, d3.2.2.2.1]
  exact b1

end PYEXP
