/-! PURE, the class's split of a leaf -/
section PSPLC
variable {q g : Nat} {μ μ' : Mem} {p p' P : Nat → Int32} {l b b' w' n s k d f pl m j : Nat} {key val kind x : Int32} {B : Int}
theorem dgB_cg (hw : w' < 14) (h : gB p b' w' = gB p' b' w') : gB (dgB p b kind) b' w' = gB (dgB p' b kind) b' w' := by
  unfold dgB
  rw [gB_sB (by decide) hw, gB_sB (by decide) hw, gB_sB (by decide) hw, gB_sB (by decide) hw, gB_sB (by decide) hw, gB_sB (by decide) hw, gB_sB (by decide) hw, gB_sB (by decide) hw, gB_sB (by decide) hw, gB_sB (by decide) hw, gB_sB (by decide) hw, gB_sB (by decide) hw, h]
/-- the page behind the class's fifth entry -/
def p5 (p : Nat → Int32) (l s : Nat) (key val : Int32) : Nat → Int32 := sB (setE (setE (setE (setE p l 0 (spK p l s key 0) (spV p l s val 0)) l 1 (spK p l s key 1) (spV p l s val 1)) l 2 (spK p l s key 2) (spV p l s val 2)) l 3 (spK p l s key 3) (spV p l s val 3)) l 2 (nI 5)
theorem p5_oth (hw : w' < 14) (h : b' ≠ l ∨ (w' < 6 ∧ w' ≠ 2)) : gB (p5 p l s key val) b' w' = gB p b' w' := by
  unfold p5
  rw [gB_sB (by decide) hw, if_neg (by omega)]
  rcases h with h | h
  · rw [setE_ne (by decide) hw h, setE_ne (by decide) hw h, setE_ne (by decide) hw h, setE_ne (by decide) hw h]
  · rw [setE_lo (by decide) h.1, setE_lo (by decide) h.1, setE_lo (by decide) h.1, setE_lo (by decide) h.1]
theorem p5_2 : gB (p5 p l s key val) l 2 = nI 5 := by
  unfold p5
  rw [gB_sB (by decide) (by decide), if_pos ⟨rfl, rfl⟩]
theorem p5_k (hj : j < 4) : gB (p5 p l s key val) l (6 + 2 * j) = spK p l s key j ∧ gB (p5 p l s key val) l (7 + 2 * j) = spV p l s val j := by
  unfold p5
  rw [gB_sB (by decide) (by omega), if_neg (by omega), gB_sB (by decide) (by omega), if_neg (by omega)]
  rw [(setE_k (i := 3) (by decide) (show j < 4 by omega)).1, (setE_k (i := 3) (by decide) (show j < 4 by omega)).2, (setE_k (i := 2) (by decide) (show j < 4 by omega)).1, (setE_k (i := 2) (by decide) (show j < 4 by omega)).2, (setE_k (i := 1) (by decide) (show j < 4 by omega)).1, (setE_k (i := 1) (by decide) (show j < 4 by omega)).2, (setE_k (i := 0) (by decide) (show j < 4 by omega)).1, (setE_k (i := 0) (by decide) (show j < 4 by omega)).2]
  have hc : j = 0 ∨ j = 1 ∨ j = 2 ∨ j = 3 := by omega
  rcases hc with rfl | rfl | rfl | rfl
  · exact ⟨rfl, rfl⟩
  · exact ⟨rfl, rfl⟩
  · exact ⟨rfl, rfl⟩
  · exact ⟨rfl, rfl⟩
theorem p5_same (hl : l < 32) : Same p (p5 p l s key val) := by
  unfold p5
  exact ((((setE_same hl (by decide)).tr (setE_same hl (by decide))).tr (setE_same hl (by decide))).tr (setE_same hl (by decide))).tr (Same.sB hl (by decide))
theorem p5_dg (hl : l < 32) : DgSame p (p5 p l s key val) := ⟨p5_same hl, fun b hb => ⟨p5_oth (by decide) (Or.inr ⟨by decide, by decide⟩), p5_oth (by decide) (Or.inr ⟨by decide, by decide⟩)⟩⟩
theorem insR_at {f : Nat → Int32} {z s j : Nat} {x : Int32} (hj : j ≤ 4) : insR f z s 4 x (z + j) = if j = s then x else if j < s then f (z + j) else f (z + (j - 1)) := by
  unfold insR
  rcases Nat.lt_trichotomy j s with c | c | c
  · rw [if_neg (by omega), if_neg (by omega), if_neg (by omega), if_pos c]
  · rw [if_neg (by omega), if_pos (by omega), if_pos c]
  · rw [if_pos (by omega), if_neg (by omega), if_neg (by omega)]
    congr 1
    omega
theorem insR_out {f : Nat → Int32} {z s i : Nat} {x : Int32} (hs : s ≤ 4) (h : i < z ∨ z + 4 < i) : insR f z s 4 x i = f i := by
  unfold insR
  rw [if_neg (by omega), if_neg (by omega)]
theorem RB.insert5 (h : RB q μ p) (hl : LeafOK p l) (h4 : nB p l 2 = 4) (hne : ein p l key = none) : ∃ μ', f_X1_insertEntry q (nI l) key val μ = some μ' ∧ RB q μ' (p5 p l (spos p l key) key val) ∧ Fr q μ μ' ∧ μ' (q + 7) (5 * l + 4) = spK p l (spos p l key) key 4 ∧ μ' (q + 8) (5 * l + 4) = spV p l (spos p l key) val 4 := by
  have ht := spos_thr (key := key) hl h4
  have hs := spos_le (p := p) (l := l) (key := key)
  have hz := ein_none hne
  rw [h4] at hz
  have hE : ∀ i, i < 4 → μ (q + 7) (5 * l + i) = gB p l (6 + 2 * i) ∧ μ (q + 8) (5 * l + i) = gB p l (7 + 2 * i) := fun i hi => h.2.1 l hl.1 hl.2.1 hl.2.2.1 i (by omega) hi
  have e2 : gB p l 2 = nI 4 := by rw [hl.2.2.2.1, h4]
  revert ht hs
  generalize spos p l key = s
  intro ht hs
  have e := insertEntry5 (q := q) (l := l) (μ := μ) (key := key) (val := val) (s := s) hl.1 (fun j hj => by
    rw [(hE j (by omega)).1]
    exact Int32.le_of_lt ((ht j (by omega)).mpr hj)) 4 (4 - s) FU μ (by unfold FU; omega) (by omega) (fun j hj => rfl) (fun j h1 h2 z => by
    rw [(hE j (by omega)).1] at z
    exact absurd ((ht j (by omega)).mp (Int32.lt_of_le_of_ne z (hz j (by omega)))) (by omega))
  rw [show s + (4 - s) = 4 by omega] at e
  have k7 : ∀ j, j ≤ 4 → insR (μ (q + 7)) (5 * l) s 4 key (5 * l + j) = spK p l s key j := fun j hj => by
    rw [insR_at hj]
    unfold spK
    by_cases c : j = s
    · rw [if_pos c, if_pos c]
    · by_cases c2 : j < s
      · rw [if_neg c, if_neg c, if_pos c2, if_pos c2, (hE j (by omega)).1]
      · rw [if_neg c, if_neg c, if_neg c2, if_neg c2, (hE (j - 1) (by omega)).1]
  have k8 : ∀ j, j ≤ 4 → insR (μ (q + 8)) (5 * l) s 4 val (5 * l + j) = spV p l s val j := fun j hj => by
    rw [insR_at hj]
    unfold spV
    by_cases c : j = s
    · rw [if_pos c, if_pos c]
    · by_cases c2 : j < s
      · rw [if_neg c, if_neg c, if_pos c2, if_pos c2, (hE j (by omega)).2]
      · rw [if_neg c, if_neg c, if_neg c2, if_neg c2, (hE (j - 1) (by omega)).2]
  unfold f_X1_insertEntry
  rw [h.size hl.1 hl.2.1, Option.bind_some, e2, e]
  have r7 : mst (rst (rst μ (q + 7) (insR (μ (q + 7)) (5 * l) s 4 key)) (q + 8) (insR (μ (q + 8)) (5 * l) s 4 val)) (q + 3) l (nI 5) (q + 7) = insR (μ (q + 7)) (5 * l) s 4 key := by
    rw [mst_ne (by omega), rst_ne (by omega), rst_eq]
  have r8 : mst (rst (rst μ (q + 7) (insR (μ (q + 7)) (5 * l) s 4 key)) (q + 8) (insR (μ (q + 8)) (5 * l) s 4 val)) (q + 3) l (nI 5) (q + 8) = insR (μ (q + 8)) (5 * l) s 4 val := by
    rw [mst_ne (by omega), rst_eq]
  have r3 : mst (rst (rst μ (q + 7) (insR (μ (q + 7)) (5 * l) s 4 key)) (q + 8) (insR (μ (q + 8)) (5 * l) s 4 val)) (q + 3) l (nI 5) (q + 3) = upd (μ (q + 3)) l (nI 5) := by
    rw [mst_eq, rst_ne (by omega), rst_ne (by omega)]
  have ro : ∀ z, z ≠ q + 7 → z ≠ q + 8 → z ≠ q + 3 → mst (rst (rst μ (q + 7) (insR (μ (q + 7)) (5 * l) s 4 key)) (q + 8) (insR (μ (q + 8)) (5 * l) s 4 val)) (q + 3) l (nI 5) z = μ z := fun z z1 z2 z3 => by
    rw [mst_ne z3, rst_ne z2, rst_ne z1]
  have nl : nB (p5 p l s key val) l 2 = 5 := by
    unfold nB
    rw [p5_2, nI_clamp (by omega)]
  refine ⟨_, rfl, ⟨fun b' hb' => ?_, fun b' hb' g0 g1 i hi h4' => ?_, fun b' hb' g0 g1 i hi h4' => ?_⟩, fun z hz => ro z (by omega) (by omega) (by omega), by rw [r7, k7 4 (by omega)], by rw [r8, k8 4 (by omega)]⟩
  · rw [p5_oth (b' := b') (w' := 0) (by decide) (Or.inr ⟨by decide, by decide⟩), p5_oth (b' := b') (w' := 1) (by decide) (Or.inr ⟨by decide, by decide⟩), p5_oth (b' := b') (w' := 3) (by decide) (Or.inr ⟨by decide, by decide⟩), p5_oth (b' := b') (w' := 4) (by decide) (Or.inr ⟨by decide, by decide⟩), p5_oth (b' := b') (w' := 5) (by decide) (Or.inr ⟨by decide, by decide⟩), ro (q + 1) (by omega) (by omega) (by omega), ro (q + 2) (by omega) (by omega) (by omega), r3, ro (q + 4) (by omega) (by omega) (by omega), ro (q + 5) (by omega) (by omega) (by omega), ro (q + 6) (by omega) (by omega) (by omega)]
    have eb := h.1 b' hb'
    refine ⟨eb.1, eb.2.1, ?_, eb.2.2.2.1, eb.2.2.2.2.1, eb.2.2.2.2.2⟩
    by_cases c : b' = l
    · rw [c, upd_eq, p5_2, if_neg hl.2.1]
    · rw [upd_ne c, p5_oth (by decide) (Or.inl c)]
      exact eb.2.2.1
  · rw [p5_oth (by decide) (Or.inr ⟨by decide, by decide⟩)] at g0 g1
    rw [r7, r8]
    by_cases c : b' = l
    · rw [c, k7 i (by omega), k8 i (by omega), (p5_k h4').1, (p5_k h4').2]
      exact ⟨rfl, rfl⟩
    · rw [nB_of (show gB (p5 p l s key val) b' 2 = gB p b' 2 from p5_oth (by decide) (Or.inl c))] at hi
      rw [p5_oth (by omega) (Or.inl c), p5_oth (by omega) (Or.inl c), insR_out hs (by omega), insR_out hs (by omega)]
      exact h.2.1 b' hb' g0 g1 i hi h4'
  · rw [p5_oth (by decide) (Or.inr ⟨by decide, by decide⟩)] at g0 g1
    have c : b' ≠ l := fun z => by rw [z, hl.2.2.1] at g1; exact absurd g1 (by decide)
    rw [nB_of (show gB (p5 p l s key val) b' 2 = gB p b' 2 from p5_oth (by decide) (Or.inl c))] at hi
    rw [p5_oth (by omega) (Or.inl c), ro (q + 9) (by omega) (by omega) (by omega)]
    exact h.2.2 b' hb' g0 g1 i hi h4'
theorem useFresh78 (hb : b < 32) (e : f_X1_useFresh q (nI b) kind μ = some μ') : μ' (q + 7) = μ (q + 7) ∧ μ' (q + 8) = μ (q + 8) := by
  unfold f_X1_useFresh at e
  rw [setCell_n hb (by decide), Option.bind_some, setCell_n hb (by decide), Option.bind_some, setCell_n hb (by decide), Option.bind_some, setCell_n hb (by decide), Option.bind_some, setCell_n hb (by decide), Option.bind_some] at e
  cases e
  exact ⟨by rw [mst_ne (by omega), mst_ne (by omega), mst_ne (by omega), mst_ne (by omega), mst_ne (by omega)], by rw [mst_ne (by omega), mst_ne (by omega), mst_ne (by omega), mst_ne (by omega), mst_ne (by omega)]⟩
theorem RG.dig78 (h : RG g μ p) (hr : RootOK p) (hn : nxt p = some b) (hl : gB p b 5 = 0) : ∃ μ', f_X4_dig g kind μ = some (nI b, μ') ∧ RG g μ' (dgB p b kind) ∧ Fr (g + 1) μ μ' ∧ μ' (g + 1 + 7) = μ (g + 1 + 7) ∧ μ' (g + 1 + 8) = μ (g + 1 + 8) := by
  have hb := nxt_lt hn
  obtain ⟨μ', e1, e2, e3⟩ := h.1.useFresh (kind := kind) hb hl
  refine ⟨μ', ?_, h.beds (dgB_same hb) e2 e3, e3, useFresh78 hb e1⟩
  unfold f_X4_dig
  rw [h.needed1 hr, Option.bind_some, h.bedToDig1, hn, Option.bind_some, show oI (-1000) (some b) = nI b from rfl, e1, Option.bind_some]
theorem RB.split5 (h : RB q μ (dgB (p5 p l s key val) b 0)) (hl : LeafOK p l) (hb : b < 32) (hbl : l ≠ b) (k4 : μ (q + 7) (5 * l + 4) = spK p l s key 4) (v4 : μ (q + 8) (5 * l + 4) = spV p l s val 4) : ∃ μ', f_X1_splitLeaf q (nI l) (nI b) μ = some μ' ∧ RB q μ' (spB p l b s key val (dgB p b 0)) ∧ Fr q μ μ' := by
  have hl32 := hl.1
  have f0 : gB (dgB (p5 p l s key val) b 0) l 0 = gB p l 0 := by
    rw [dgB_ne hbl (by decide), p5_oth (by decide) (Or.inr ⟨by decide, by decide⟩)]
  have f1 : gB (dgB (p5 p l s key val) b 0) l 1 = 0 := by
    rw [dgB_ne hbl (by decide), p5_oth (by decide) (Or.inr ⟨by decide, by decide⟩)]
    exact hl.2.2.1
  have f2 : gB (dgB (p5 p l s key val) b 0) l 2 = nI 5 := by
    rw [dgB_ne hbl (by decide), p5_2]
  have h5 : μ (q + 3) l = nI 5 := by
    rw [(h.1 l hl32).2.2.1, f0, if_neg hl.2.1, f2]
  have n5 : nB (dgB (p5 p l s key val) b 0) l 2 = 5 := by
    unfold nB
    rw [f2, nI_clamp (by omega)]
  have kl : ∀ i, i < 4 → μ (q + 7) (5 * l + i) = spK p l s key i ∧ μ (q + 8) (5 * l + i) = spV p l s val i := fun i hi => by
    have e := h.2.1 l hl32 (by rw [f0]; exact hl.2.1) f1 i (by omega) hi
    rw [dgB_ne hbl (by omega), dgB_ne hbl (by omega), (p5_k hi).1, (p5_k hi).2] at e
    exact e
  have lo : ∀ b' w, w < 6 → w ≠ 2 → gB (spB p l b s key val (dgB p b 0)) b' w = gB (dgB (p5 p l s key val) b 0) b' w := fun b' w h1 h2 => by
    rw [spB_oth (by omega) (Or.inr ⟨h1, h2⟩)]
    exact dgB_cg (by omega) (p5_oth (by omega) (Or.inr ⟨h1, h2⟩)).symm
  have ot : ∀ b' w, w < 14 → b' ≠ l → b' ≠ b → gB (spB p l b s key val (dgB p b 0)) b' w = gB (dgB (p5 p l s key val) b 0) b' w := fun b' w hw h1 h2 => by
    rw [spB_oth hw (Or.inl ⟨h1, h2⟩)]
    exact dgB_cg hw (p5_oth hw (Or.inl h1)).symm
  have r7 : mst (mst (mvR q l b 1 (mvR q l b 0 μ)) (q + 3) l (nI 3)) (q + 3) b (nI 2) (q + 7) = upd (upd (μ (q + 7)) (5 * b + 0) (μ (q + 7) (5 * l + 3))) (5 * b + 1) (μ (q + 7) (5 * l + 4)) := by
    unfold mvR
    rw [mst_ne (by omega), mst_ne (by omega), mst_ne (by omega), mst_eq, mst_ne (by omega), mst_eq, upd_ne (by omega)]
  have r8 : mst (mst (mvR q l b 1 (mvR q l b 0 μ)) (q + 3) l (nI 3)) (q + 3) b (nI 2) (q + 8) = upd (upd (μ (q + 8)) (5 * b + 0) (μ (q + 8) (5 * l + 3))) (5 * b + 1) (μ (q + 8) (5 * l + 4)) := by
    unfold mvR
    rw [mst_ne (by omega), mst_ne (by omega), mst_eq, mst_ne (by omega), mst_eq, mst_ne (show q + 8 ≠ q + 7 by omega), upd_ne (by omega)]
  have r3 : mst (mst (mvR q l b 1 (mvR q l b 0 μ)) (q + 3) l (nI 3)) (q + 3) b (nI 2) (q + 3) = upd (upd (μ (q + 3)) l (nI 3)) b (nI 2) := by
    unfold mvR
    rw [mst_eq, mst_eq, mst_ne (by omega), mst_ne (by omega), mst_ne (by omega), mst_ne (by omega)]
  have ro : ∀ z, z ≠ q + 7 → z ≠ q + 8 → z ≠ q + 3 → mst (mst (mvR q l b 1 (mvR q l b 0 μ)) (q + 3) l (nI 3)) (q + 3) b (nI 2) z = μ z := fun z z1 z2 z3 => by
    unfold mvR
    rw [mst_ne z3, mst_ne z3, mst_ne z2, mst_ne z1, mst_ne z2, mst_ne z1]
  have nl : nB (spB p l b s key val (dgB p b 0)) l 2 = 3 := by
    unfold nB
    rw [spB_2l hbl, nI_clamp (by omega)]
  have nb : nB (spB p l b s key val (dgB p b 0)) b 2 = 2 := by
    unfold nB
    rw [spB_2b, nI_clamp (by omega)]
  refine ⟨_, splitLeaf5 hl32 hb h5, ⟨fun b' hb' => ?_, fun b' hb' g0 g1 i hi h4' => ?_, fun b' hb' g0 g1 i hi h4' => ?_⟩, fun z hz => ro z (by omega) (by omega) (by omega)⟩
  · rw [lo b' 0 (by decide) (by decide), lo b' 1 (by decide) (by decide), lo b' 3 (by decide) (by decide), lo b' 4 (by decide) (by decide), lo b' 5 (by decide) (by decide), ro (q + 1) (by omega) (by omega) (by omega), ro (q + 2) (by omega) (by omega) (by omega), r3, ro (q + 4) (by omega) (by omega) (by omega), ro (q + 5) (by omega) (by omega) (by omega), ro (q + 6) (by omega) (by omega) (by omega)]
    have eb := h.1 b' hb'
    refine ⟨eb.1, eb.2.1, ?_, eb.2.2.2.1, eb.2.2.2.2.1, eb.2.2.2.2.2⟩
    by_cases c : b' = b
    · rw [c, upd_eq, spB_2b, dgB_eq.1, if_neg (by decide)]
    · rw [upd_ne c]
      by_cases c2 : b' = l
      · rw [c2, upd_eq, spB_2l hbl, f0, if_neg hl.2.1]
      · rw [upd_ne c2, ot b' 2 (by decide) c2 c]
        exact eb.2.2.1
  · rw [lo b' 0 (by decide) (by decide)] at g0
    rw [lo b' 1 (by decide) (by decide)] at g1
    rw [r7, r8]
    by_cases c : b' = b
    · rw [c, nb] at hi
      rw [c, (spB_kb hi).1, (spB_kb hi).2]
      have hc : i = 0 ∨ i = 1 := by omega
      rcases hc with rfl | rfl
      · rw [upd_ne (by omega), upd_eq, upd_ne (by omega), upd_eq]
        exact kl 3 (by decide)
      · rw [upd_eq, upd_eq]
        exact ⟨k4, v4⟩
    · rw [upd_ne (by omega), upd_ne (by omega), upd_ne (by omega), upd_ne (by omega)]
      by_cases c2 : b' = l
      · rw [c2, nl] at hi
        rw [c2, (spB_kl hbl hi).1, (spB_kl hbl hi).2]
        exact kl i h4'
      · rw [nB_of (ot b' 2 (by decide) c2 c)] at hi
        rw [ot b' _ (by omega) c2 c, ot b' _ (by omega) c2 c]
        exact h.2.1 b' hb' g0 g1 i hi h4'
  · rw [lo b' 0 (by decide) (by decide)] at g0
    rw [lo b' 1 (by decide) (by decide)] at g1
    have c : b' ≠ b := fun z => by rw [z, dgB_eq.2.1] at g1; exact absurd g1 (by decide)
    have c2 : b' ≠ l := fun z => by rw [z, f1] at g1; exact absurd g1 (by decide)
    rw [nB_of (ot b' 2 (by decide) c2 c)] at hi
    rw [ot b' _ (by omega) c2 c, ro (q + 9) (by omega) (by omega) (by omega)]
    exact h.2.2 b' hb' g0 g1 i hi h4'
end PSPLC
