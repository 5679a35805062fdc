/-! PURE, the invariant behind each change of the draft -/
section PINVS
variable {q g : Nat} {μ μ' : Mem} {p p' P : Nat → Int32} {l b b' w' n s k d f pl m j i : Nat} {key val kind x : Int32} {B : Int}
theorem LeafOK.mk (n : Nat) (K : Nat → Int32) (hl : l < 32) (h0 : gB p l 0 ≠ 0) (h1 : gB p l 1 = 0) (h2 : gB p l 2 = nI n) (h3 : 1 ≤ n) (h4 : n ≤ 4) (hk : ∀ i, i < n → gB p l (6 + 2 * i) = K i) (hs : ∀ i j, i < j → j < n → K i < K j) : LeafOK p l := by
  have e2 : nB p l 2 = n := by
    unfold nB
    rw [h2, nI_clamp (by omega)]
  refine ⟨hl, h0, h1, by rw [e2]; exact h2, by rw [e2]; exact h3, by rw [e2]; exact h4, fun i j hij hj => ?_⟩
  rw [e2] at hj
  rw [hk i (by omega), hk j hj]
  exact hs i j hij hj
/-- what a draft's directory tells of its leaves -/
theorem HasDraft.leafs (hd : HasDraft p) (hk : k < nB p (fdp p) 2) : nB p (fdp p) (6 + k) < 32 ∧ LeafOK p (nB p (fdp p) (6 + k)) ∧ gB p (nB p (fdp p) (6 + k)) 0 = 1 ∧ gB p (nB p (fdp p) (6 + k)) 5 = 0 ∧ nB p (fdp p) (6 + k) ≠ fdp p ∧ gB p (fdp p) (6 + k) = nI (nB p (fdp p) (6 + k)) := by
  obtain ⟨d1, d2, d3, d4, d5⟩ := hd
  have hL := d3.2.2.2.2.2.1 k hk
  refine ⟨hL.2.1, hL.2, (d5.2 k hk).1, (d5.2 k hk).2, fun z => ?_, hL.1⟩
  have e1 := d3.2.2.1
  rw [← z, hL.2.2.2.1] at e1
  exact absurd e1 (by decide)
theorem INV_ins (hi : INV B p) (hd : HasDraft p) (hn : nxt p = some b) (hpl : pl ≤ nB p (fdp p) 2) (h6 : nB p (fdp p) 2 < 6) (hs : Same p P) (lo : ∀ b' w, b' < 32 → w < 6 → w ≠ 2 → gB P b' w = gB (dgB p b 0) b' w) (ho : ∀ b', b' < 32 → gB p b' 4 = 0 → b' ≠ b → ∀ w, w < 14 → gB P b' w = gB p b' w) (hdd : ∀ w, w < 14 → gB P (fdp p) w = gB p (fdp p) w) (hL : ∀ i, i < nB p (fdp p) 2 → LeafOK P (nB p (fdp p) (6 + i))) (hb : LeafOK P b) : INV B (inL P (fdp p) pl (nB p (fdp p) 2 - pl) (nI b) (nB p (fdp p) 2)) := by
  have hb32 := nxt_lt hn
  obtain ⟨f1, f2, f3⟩ := nxt_free hi hn
  have hd0 := hd
  obtain ⟨d1, d2, d3, d4, d5⟩ := hd0
  have hdb : fdp p ≠ b := fun z => f1 (by rw [← z]; exact d5.1.1)
  obtain ⟨a1, a2, a3, a4⟩ := inL_spec (p := P) (d := fdp p) (pl := pl) (m := nB p (fdp p) 2 - pl) (n := nB p (fdp p) 2) (x := nI b) d3.1 (by omega) h6
  have hlb : ∀ i, i < nB p (fdp p) 2 → nB p (fdp p) (6 + i) ≠ b := fun i hi2 z => f1 (by rw [← z]; exact (hd.leafs hi2).2.2.1)
  have low : ∀ b' w, b' < 32 → w < 6 → w ≠ 2 → gB (inL P (fdp p) pl (nB p (fdp p) 2 - pl) (nI b) (nB p (fdp p) 2)) b' w = gB (dgB p b 0) b' w := fun b' w hb' h1 h2 => (a1 b' w (by omega) (Or.inr ⟨h1, h2⟩)).trans (lo b' w hb' h1 h2)
  have lown : ∀ b' w, b' < 32 → b' ≠ b → w < 6 → w ≠ 2 → gB (inL P (fdp p) pl (nB p (fdp p) 2 - pl) (nI b) (nB p (fdp p) 2)) b' w = gB p b' w := fun b' w hb' hne h1 h2 => (low b' w hb' h1 h2).trans (dgB_ne hne (by omega))
  have leaf : ∀ e, e ≠ fdp p → LeafOK P e → LeafOK (inL P (fdp p) pl (nB p (fdp p) 2 - pl) (nI b) (nB p (fdp p) 2)) e := fun e hne he => he.cgc (fun w hw _ => a1 e w hw (Or.inl hne))
  refine INV_gen hi (hs.tr a4) (fun b' hb' c1 c2 w hw hw5 => ?_) (fun b' hb' => ?_) (HasDraft.mk (hs.tr a4) hd (nB p (fdp p) 2 + 1) (fun i => if i = pl then b else nB p (fdp p) (6 + (if i < pl then i else i - 1))) ?_ ?_ a2 ?_ ?_ (by omega) (fun i hi2 => ?_) (fun i j hi2 hj hij => ?_))
  · have hbd : b' ≠ fdp p := fun z => by rw [z, d4] at c1; exact absurd c1 (by decide)
    have hbb : b' ≠ b := fun z => c2 (by rw [z]; exact hn)
    exact (a1 b' w hw (Or.inl hbd)).trans (ho b' hb' c1 hbb w hw)
  · rw [low b' 0 hb' (by decide) (by decide), low b' 4 hb' (by decide) (by decide), low b' 5 hb' (by decide) (by decide)]
    by_cases c : b' = b
    · rw [c, dgB_eq.1, dgB_eq.2.2.2.2.1, dgB_eq.2.2.2.2.2]
      exact ⟨Or.inr (Or.inl rfl), Or.inr rfl, Or.inl rfl, fun _ => ⟨rfl, rfl⟩, fun _ => rfl⟩
    · rw [dgB_ne c (by decide), dgB_ne c (by decide), dgB_ne c (by decide)]
      exact hi.2.1 b' hb'
  · rw [lown _ 0 d3.1 hdb (by decide) (by decide)]
    exact d5.1.1
  · rw [lown _ 1 d3.1 hdb (by decide) (by decide)]
    exact d3.2.2.1
  · rw [lown _ 4 d3.1 hdb (by decide) (by decide)]
    exact d4
  · rw [lown _ 5 d3.1 hdb (by decide) (by decide)]
    exact d5.1.2
  · show gB (inL P (fdp p) pl (nB p (fdp p) 2 - pl) (nI b) (nB p (fdp p) 2)) (fdp p) (6 + i) = nI (if i = pl then b else nB p (fdp p) (6 + (if i < pl then i else i - 1))) ∧ LeafOK (inL P (fdp p) pl (nB p (fdp p) 2 - pl) (nI b) (nB p (fdp p) 2)) (if i = pl then b else nB p (fdp p) (6 + (if i < pl then i else i - 1))) ∧ gB (inL P (fdp p) pl (nB p (fdp p) 2 - pl) (nI b) (nB p (fdp p) 2)) (if i = pl then b else nB p (fdp p) (6 + (if i < pl then i else i - 1))) 0 = 1 ∧ gB (inL P (fdp p) pl (nB p (fdp p) 2 - pl) (nI b) (nB p (fdp p) 2)) (if i = pl then b else nB p (fdp p) (6 + (if i < pl then i else i - 1))) 5 = 0
    rw [a3 i hi2]
    by_cases c : i = pl
    · rw [if_pos c, if_pos c]
      refine ⟨rfl, leaf b hdb.symm hb, ?_, ?_⟩
      · rw [low b 0 hb32 (by decide) (by decide)]
        exact dgB_eq.1
      · rw [low b 5 hb32 (by decide) (by decide)]
        exact dgB_eq.2.2.2.2.2
    · rw [if_neg c, if_neg c]
      obtain ⟨z, hz⟩ : ∃ z, z = (if i < pl then i else i - 1) := ⟨_, rfl⟩
      have hzn : z < nB p (fdp p) 2 := by
        rw [hz]
        split <;> omega
      rw [← hz, hdd (6 + z) (by omega)]
      obtain ⟨g1, g2, g3, g4, g5, g6⟩ := hd.leafs hzn
      refine ⟨g6, leaf _ g5 (hL z hzn), ?_, ?_⟩
      · rw [lown _ 0 g1 (hlb z hzn) (by decide) (by decide)]
        exact g3
      · rw [lown _ 5 g1 (hlb z hzn) (by decide) (by decide)]
        exact g4
  · have hij' : (if i = pl then b else nB p (fdp p) (6 + (if i < pl then i else i - 1))) = (if j = pl then b else nB p (fdp p) (6 + (if j < pl then j else j - 1))) := hij
    by_cases c : i = pl
    · by_cases c2 : j = pl
      · omega
      · rw [if_pos c, if_neg c2] at hij'
        exact absurd hij'.symm (hlb _ (by split <;> omega))
    · by_cases c2 : j = pl
      · rw [if_neg c, if_pos c2] at hij'
        exact absurd hij' (hlb _ (by split <;> omega))
      · rw [if_neg c, if_neg c2] at hij'
        have e := d3.2.2.2.2.2.2 _ _ (by split <;> omega) (by split <;> omega) hij'
        revert e
        split <;> split <;> omega
/-- the page with the leaf l of the draft's directory copied to f -/
def owL (p : Nat → Int32) (d k l f : Nat) : Nat → Int32 := sB (lvB (cpB (dgB p f 0) l f) l) d (6 + k) (nI f)
theorem owL_gB (hw : w' < 14) (h4 : gB p l 4 = 0) (hlf : l ≠ f) (hk : k < 6) : gB (owL p d k l f) b' w' = if b' = d ∧ w' = 6 + k then nI f else if b' = l ∧ w' = 5 then 1 else if b' = f ∧ (w' = 2 ∨ 6 ≤ w') then gB p l w' else gB (dgB p f 0) b' w' := by
  have e4 : ¬ gB (cpB (dgB p f 0) l f) l 4 = 1 := by
    rw [cpB_gB (by decide), if_neg (fun z => hlf z.1), dgB_ne hlf (by decide), h4]
    decide
  unfold owL
  rw [gB_sB (by omega) hw]
  by_cases c1 : b' = d ∧ w' = 6 + k
  · rw [if_pos c1, if_pos c1]
  · rw [if_neg c1, if_neg c1, lvB_gB hw, if_neg e4]
    by_cases c2 : b' = l ∧ w' = 5
    · rw [if_pos c2, if_pos c2]
    · rw [if_neg c2, if_neg c2, cpB_gB hw]
      by_cases c3 : b' = f ∧ (w' = 2 ∨ 6 ≤ w')
      · rw [if_pos c3, if_pos c3, dgB_ne hlf hw]
      · rw [if_neg c3, if_neg c3]
theorem owL_same (hl : l < 32) (hf : f < 32) (hd : d < 32) (hk : k < 6) : Same p (owL p d k l f) := (((dgB_same hf).tr (cpB_same hf)).tr (lvB_same hl)).tr (Same.sB hd (by omega))
theorem INV_own (hi : INV B p) (hd : HasDraft p) (hk : k < nB p (fdp p) 2) (hl : nB p (fdp p) (6 + k) = l) (h4 : gB p l 4 ≠ 1) (hn : nxt p = some f) : INV B (owL p (fdp p) k l f) ∧ HasDraft (owL p (fdp p) k l f) ∧ nB (owL p (fdp p) k l f) (fdp p) 2 = nB p (fdp p) 2 ∧ nB (owL p (fdp p) k l f) (fdp p) (6 + k) = f ∧ gB (owL p (fdp p) k l f) f 4 = 1 ∧ (∀ w, w < 14 → (w = 2 ∨ 6 ≤ w) → gB (owL p (fdp p) k l f) f w = gB p l w) ∧ many p = many (owL p (fdp p) k l f) + 1 := by
  have hf := nxt_lt hn
  obtain ⟨f1, f2, f3⟩ := nxt_free hi hn
  have hd0 := hd
  obtain ⟨d1, d2, d3, d4, d5⟩ := hd0
  have h6 := d3.2.2.2.2.1
  obtain ⟨g1, g2, g3, g4, g5, g6⟩ := hd.leafs hk
  rw [hl] at g1 g2 g3 g4 g5 g6
  have h40 : gB p l 4 = 0 := (hi.2.1 l g1).2.1.resolve_right h4
  have hlf : l ≠ f := fun z => f1 (by rw [← z]; exact g3)
  have hdf : fdp p ≠ f := fun z => f1 (by rw [← z]; exact d5.1.1)
  have e : ∀ b' w', w' < 14 → gB (owL p (fdp p) k l f) b' w' = if b' = fdp p ∧ w' = 6 + k then nI f else if b' = l ∧ w' = 5 then 1 else if b' = f ∧ (w' = 2 ∨ 6 ≤ w') then gB p l w' else gB (dgB p f 0) b' w' := fun b' w' hw => owL_gB hw h40 hlf (by omega)
  have oth : ∀ b' w', w' < 14 → b' ≠ f → ¬ (b' = fdp p ∧ w' = 6 + k) → ¬ (b' = l ∧ w' = 5) → gB (owL p (fdp p) k l f) b' w' = gB p b' w' := fun b' w' hw h1 h2 h3 => by
    rw [e b' w' hw, if_neg h2, if_neg h3, if_neg (fun z => h1 z.1), dgB_ne h1 hw]
  have nf : ∀ w', w' < 14 → ¬ (w' = 2 ∨ 6 ≤ w') → gB (owL p (fdp p) k l f) f w' = gB (dgB p f 0) f w' := fun w' hw h1 => by
    rw [e f w' hw, if_neg (fun z => hdf z.1.symm), if_neg (fun z => hlf z.1.symm), if_neg (fun z => h1 z.2)]
  have cf : ∀ w, w < 14 → (w = 2 ∨ 6 ≤ w) → gB (owL p (fdp p) k l f) f w = gB p l w := fun w hw h1 => by
    rw [e f w hw, if_neg (fun z => hdf z.1.symm), if_neg (fun z => hlf z.1.symm), if_pos ⟨rfl, h1⟩]
  have n0 : gB (owL p (fdp p) k l f) f 0 = 1 := (nf 0 (by decide) (by decide)).trans dgB_eq.1
  have n1 : gB (owL p (fdp p) k l f) f 1 = 0 := (nf 1 (by decide) (by decide)).trans dgB_eq.2.1
  have n4 : gB (owL p (fdp p) k l f) f 4 = 1 := (nf 4 (by decide) (by decide)).trans dgB_eq.2.2.2.2.1
  have n5 : gB (owL p (fdp p) k l f) f 5 = 0 := (nf 5 (by decide) (by decide)).trans dgB_eq.2.2.2.2.2
  have fL : LeafOK (owL p (fdp p) k l f) f := LeafOK.mk (nB p l 2) (fun i => gB p l (6 + 2 * i)) hf (by rw [n0]; decide) n1 (by rw [cf 2 (by decide) (Or.inl rfl)]; exact g2.2.2.2.1) g2.2.2.2.2.1 g2.2.2.2.2.2.1 (fun i hi2 => cf _ (by have := g2.2.2.2.2.2.1; omega) (Or.inr (by omega))) g2.2.2.2.2.2.2
  have hs := owL_same (p := p) (k := k) g1 hf d3.1 (by omega)
  have hlb : ∀ i, i < nB p (fdp p) 2 → nB p (fdp p) (6 + i) ≠ f := fun i hi2 z => f1 (by rw [← z]; exact (hd.leafs hi2).2.2.1)
  have hD : HasDraft (owL p (fdp p) k l f) := by
    refine HasDraft.mk hs hd (nB p (fdp p) 2) (fun i => if i = k then f else nB p (fdp p) (6 + i)) ?_ ?_ ?_ ?_ ?_ h6 (fun i hi2 => ?_) (fun i j hi2 hj hij => ?_)
    · rw [oth _ 0 (by decide) hdf (by omega) (by omega)]
      exact d5.1.1
    · rw [oth _ 1 (by decide) hdf (by omega) (by omega)]
      exact d3.2.2.1
    · rw [oth _ 2 (by decide) hdf (by omega) (by omega)]
      exact d3.2.2.2.1
    · rw [oth _ 4 (by decide) hdf (by omega) (by omega)]
      exact d4
    · rw [oth _ 5 (by decide) hdf (by omega) (fun z => g5 z.1.symm)]
      exact d5.1.2
    · show gB (owL p (fdp p) k l f) (fdp p) (6 + i) = nI (if i = k then f else nB p (fdp p) (6 + i)) ∧ LeafOK (owL p (fdp p) k l f) (if i = k then f else nB p (fdp p) (6 + i)) ∧ gB (owL p (fdp p) k l f) (if i = k then f else nB p (fdp p) (6 + i)) 0 = 1 ∧ gB (owL p (fdp p) k l f) (if i = k then f else nB p (fdp p) (6 + i)) 5 = 0
      by_cases c : i = k
      · rw [if_pos c, c]
        exact ⟨by rw [e _ _ (by omega), if_pos ⟨rfl, rfl⟩], fL, n0, n5⟩
      · rw [if_neg c]
        obtain ⟨t1, t2, t3, t4, t5, t6⟩ := hd.leafs hi2
        have tl : nB p (fdp p) (6 + i) ≠ l := fun z => c (d3.2.2.2.2.2.2 i k hi2 hk (z.trans hl.symm))
        refine ⟨by rw [oth _ _ (by omega) hdf (by omega) (by omega)]; exact t6, t2.cgc (fun w hw _ => oth _ w hw (hlb i hi2) (fun z => t5 z.1) (fun z => tl z.1)), ?_, ?_⟩
        · rw [oth _ 0 (by decide) (hlb i hi2) (fun z => t5 z.1) (fun z => tl z.1)]
          exact t3
        · rw [oth _ 5 (by decide) (hlb i hi2) (fun z => t5 z.1) (fun z => tl z.1)]
          exact t4
    · have hij' : (if i = k then f else nB p (fdp p) (6 + i)) = (if j = k then f else nB p (fdp p) (6 + j)) := hij
      by_cases c : i = k
      · by_cases c2 : j = k
        · omega
        · rw [if_pos c, if_neg c2] at hij'
          exact absurd hij'.symm (hlb _ hj)
      · by_cases c2 : j = k
        · rw [if_neg c, if_pos c2] at hij'
          exact absurd hij' (hlb _ hi2)
        · rw [if_neg c, if_neg c2] at hij'
          exact d3.2.2.2.2.2.2 _ _ hi2 hj hij'
  refine ⟨INV_gen hi hs (fun b' hb' c1 c2 w hw hw5 => ?_) (fun b' hb' => ?_) hD, hD, nB_of (oth _ 2 (by decide) hdf (by omega) (by omega)), ?_, n4, cf, ?_⟩
  · have hbd : b' ≠ fdp p := fun z => by rw [z, d4] at c1; exact absurd c1 (by decide)
    have hbf : b' ≠ f := fun z => c2 (by rw [z]; exact hn)
    exact oth b' w hw hbf (fun z => hbd z.1) (fun z => hw5 z.2)
  · by_cases c : b' = f
    · rw [c, n0, n4, n5]
      exact ⟨Or.inr (Or.inl rfl), Or.inr rfl, Or.inl rfl, fun _ => ⟨rfl, rfl⟩, fun _ => rfl⟩
    · have hB := hi.2.1 b' hb'
      rw [oth b' 0 (by decide) c (by omega) (by omega), oth b' 4 (by decide) c (by omega) (by omega)]
      by_cases c2 : b' = l
      · rw [c2, e l 5 (by decide), if_neg (by omega), if_pos ⟨rfl, rfl⟩, g3, h40]
        exact ⟨Or.inr (Or.inl rfl), Or.inl rfl, Or.inr rfl, fun z => absurd z (by decide), fun _ => rfl⟩
      · rw [oth b' 5 (by decide) c (by omega) (fun z => c2 z.1)]
        exact hB
  · unfold nB
    rw [e _ _ (by omega), if_pos ⟨rfl, rfl⟩, nI_clamp (by omega)]
  · rw [many_dg (kind := 0) hn dgB_eq.1]
    have hq : DgSame (dgB p f 0) (owL p (fdp p) k l f) := by
      refine ⟨((cpB_same hf).tr (lvB_same g1)).tr (Same.sB d3.1 (by omega)), fun b' hb' => ⟨?_, ?_⟩⟩
      · rw [e b' 0 (by decide), if_neg (by omega), if_neg (by omega), if_neg (by omega)]
      · rw [e b' 3 (by decide), if_neg (by omega), if_neg (by omega), if_neg (by omega)]
    rw [hq.manyEq]
/-- a leaf is dropped from the draft -/
theorem INV_drop (hi : INV B p) (hd : HasDraft p) (hk : k < nB p (fdp p) 2) (hl : nB p (fdp p) (6 + k) = l) (hP : Same p P) (e : ∀ b' w', b' < 32 → w' < 14 → gB P b' w' = gB (lvB (cuL p (fdp p) k (nB p (fdp p) 2)) l) b' w') : INV B P ∧ HasDraft P := by
  have hd0 := hd
  obtain ⟨d1, d2, d3, d4, d5⟩ := hd0
  have h6 := d3.2.2.2.2.1
  obtain ⟨g1, g2, g3, g4, g5, g6⟩ := hd.leafs hk
  rw [hl] at g1 g2 g3 g4 g5 g6
  obtain ⟨a1, a2, a3, a4⟩ := cuL_spec (p := p) (d := fdp p) d3.1 hk h6
  have e4 : gB (cuL p (fdp p) k (nB p (fdp p) 2)) l 4 = gB p l 4 := a1 l 4 (by decide) (Or.inl g5)
  have low : ∀ b' w, b' < 32 → w < 14 → b' ≠ l → (b' ≠ fdp p ∨ (w < 6 ∧ w ≠ 2)) → gB P b' w = gB p b' w := fun b' w hb' hw h1 h2 => by
    rw [e b' w hb' hw, lvB_gB hw, e4]
    by_cases c : gB p l 4 = 1
    · rw [if_pos c, if_neg h1]
      exact a1 b' w hw h2
    · rw [if_neg c, if_neg (fun z => h1 z.1)]
      exact a1 b' w hw h2
  have dirF : ∀ w, w < 14 → gB P (fdp p) w = gB (cuL p (fdp p) k (nB p (fdp p) 2)) (fdp p) w := fun w hw => by
    rw [e _ w d3.1 hw, lvB_gB hw]
    split
    · rw [if_neg (fun z => g5 z.symm)]
    · rw [if_neg (fun z => g5 z.1.symm)]
  have hD : HasDraft P := by
    refine HasDraft.mk hP hd (nB p (fdp p) 2 - 1) (fun i => nB p (fdp p) (6 + (if i < k then i else i + 1))) ?_ ?_ ?_ ?_ ?_ (by omega) (fun i hi2 => ?_) (fun i j hi2 hj hij => ?_)
    · rw [low _ 0 d3.1 (by decide) g5.symm (Or.inr ⟨by decide, by decide⟩)]
      exact d5.1.1
    · rw [low _ 1 d3.1 (by decide) g5.symm (Or.inr ⟨by decide, by decide⟩)]
      exact d3.2.2.1
    · rw [dirF 2 (by decide)]
      exact a2
    · rw [low _ 4 d3.1 (by decide) g5.symm (Or.inr ⟨by decide, by decide⟩)]
      exact d4
    · rw [low _ 5 d3.1 (by decide) g5.symm (Or.inr ⟨by decide, by decide⟩)]
      exact d5.1.2
    · show gB P (fdp p) (6 + i) = nI (nB p (fdp p) (6 + (if i < k then i else i + 1))) ∧ LeafOK P (nB p (fdp p) (6 + (if i < k then i else i + 1))) ∧ gB P (nB p (fdp p) (6 + (if i < k then i else i + 1))) 0 = 1 ∧ gB P (nB p (fdp p) (6 + (if i < k then i else i + 1))) 5 = 0
      rw [dirF _ (by omega), a3 i hi2]
      obtain ⟨z, hz⟩ : ∃ z, z = (if i < k then i else i + 1) := ⟨_, rfl⟩
      have hzn : z < nB p (fdp p) 2 ∧ z ≠ k := by
        rw [hz]
        split <;> omega
      rw [← hz]
      obtain ⟨t1, t2, t3, t4, t5, t6⟩ := hd.leafs hzn.1
      have tl : nB p (fdp p) (6 + z) ≠ l := fun y => hzn.2 (d3.2.2.2.2.2.2 z k hzn.1 hk (y.trans hl.symm))
      refine ⟨t6, t2.cgc (fun w hw _ => low _ w t1 hw tl (Or.inl t5)), ?_, ?_⟩
      · rw [low _ 0 t1 (by decide) tl (Or.inl t5)]
        exact t3
      · rw [low _ 5 t1 (by decide) tl (Or.inl t5)]
        exact t4
    · have e := d3.2.2.2.2.2.2 (if i < k then i else i + 1) (if j < k then j else j + 1) (by split <;> omega) (by split <;> omega) hij
      revert e
      split <;> split <;> omega
  have hlw : ∀ w, w < 14 → gB P l w = if gB p l 4 = 1 then 0 else if w = 5 then 1 else gB p l w := fun w hw => by
    rw [e l w g1 hw, lvB_gB hw, e4]
    by_cases c : gB p l 4 = 1
    · rw [if_pos c, if_pos c, if_pos rfl]
    · rw [if_neg c, if_neg c]
      by_cases c5 : w = 5
      · rw [if_pos ⟨rfl, c5⟩, if_pos c5]
      · rw [if_neg (fun z => c5 z.2), if_neg c5]
        exact a1 l w hw (Or.inl g5)
  refine ⟨INV_gen hi hP (fun b' hb' c1 c2 w hw hw5 => ?_) (fun b' hb' => ?_) hD, hD⟩
  · have hbd : b' ≠ fdp p := fun z => by rw [z, d4] at c1; exact absurd c1 (by decide)
    by_cases c : b' = l
    · rw [c] at c1
      rw [c, hlw w hw, if_neg (by rw [c1]; decide), if_neg hw5]
    · exact low b' w hb' hw c (Or.inl hbd)
  · by_cases c : b' = l
    · rw [c, hlw 0 (by decide), hlw 4 (by decide), hlw 5 (by decide)]
      by_cases c4 : gB p l 4 = 1
      · rw [if_pos c4, if_pos c4, if_pos c4]
        exact ⟨Or.inl rfl, Or.inl rfl, Or.inl rfl, fun z => absurd z (by decide), fun z => absurd z (by decide)⟩
      · have h40 : gB p l 4 = 0 := (hi.2.1 l g1).2.1.resolve_right c4
        rw [if_neg c4, if_neg c4, if_neg c4, if_neg (by decide), if_neg (by decide), if_pos rfl, g3, h40]
        exact ⟨Or.inr (Or.inl rfl), Or.inl rfl, Or.inr rfl, fun z => absurd z (by decide), fun _ => rfl⟩
    · rw [low b' 0 hb' (by decide) c (Or.inr ⟨by decide, by decide⟩), low b' 4 hb' (by decide) c (Or.inr ⟨by decide, by decide⟩), low b' 5 hb' (by decide) c (Or.inr ⟨by decide, by decide⟩)]
      exact hi.2.1 b' hb'
end PINVS
