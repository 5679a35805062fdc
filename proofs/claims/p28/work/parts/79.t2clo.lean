/-! PURE, closed forms of what is written, and that written leaves are well-formed -/
section PCLO
variable {q g : Nat} {μ μ' : Mem} {p p' P : Nat → Int32} {l b b' w' n s k d f pl m : Nat} {key val kind x : Int32} {B : Int}
theorem shE_spec : ∀ (k : Nat) (p : Nat → Int32), k < 4 → (shE l key k p).2 ≤ k ∧ (∀ b w, w < 14 → (b ≠ l ∨ w < 6) → gB (shE l key k p).1 b w = gB p b w) ∧ (∀ j, j < 4 → gB (shE l key k p).1 l (6 + 2 * j) = (if (shE l key k p).2 < j ∧ j ≤ k then gB p l (6 + 2 * (j - 1)) else gB p l (6 + 2 * j)) ∧ gB (shE l key k p).1 l (7 + 2 * j) = (if (shE l key k p).2 < j ∧ j ≤ k then gB p l (7 + 2 * (j - 1)) else gB p l (7 + 2 * j))) ∧ (∀ j, (shE l key k p).2 ≤ j → j < k → ¬ gB p l (6 + 2 * j) ≤ key) ∧ (0 < (shE l key k p).2 → gB p l (6 + 2 * ((shE l key k p).2 - 1)) ≤ key)
  | 0, p, _ => ⟨Nat.le_refl _, fun _ _ _ _ => rfl, fun j _ => ⟨(if_neg (fun z => absurd (Nat.lt_of_lt_of_le z.1 z.2) (Nat.lt_irrefl _))).symm, (if_neg (fun z => absurd (Nat.lt_of_lt_of_le z.1 z.2) (Nat.lt_irrefl _))).symm⟩, fun j _ h => absurd h (Nat.not_lt_zero j), fun h => absurd h (Nat.lt_irrefl 0)⟩
  | k + 1, p, h4 => by
    have es : shE l key (k + 1) p = if gB p l (6 + 2 * k) ≤ key then (p, k + 1) else shE l key k (setE p l (k + 1) (gB p l (6 + 2 * k)) (gB p l (7 + 2 * k))) := rfl
    by_cases c : gB p l (6 + 2 * k) ≤ key
    · rw [es, if_pos c]
      refine ⟨Nat.le_refl _, fun _ _ _ _ => rfl, fun j _ => ?_, fun j h1 h2 => absurd h2 (Nat.not_lt.mpr h1), fun _ => c⟩
      have hn : ¬ (k + 1 < j ∧ j ≤ k + 1) := by omega
      exact ⟨(if_neg hn).symm, (if_neg hn).symm⟩
    · rw [es, if_neg c]
      obtain ⟨a1, a2, a3, a4, a5⟩ := shE_spec k (setE p l (k + 1) (gB p l (6 + 2 * k)) (gB p l (7 + 2 * k))) (by omega)
      have ek : ∀ j, j < 4 → j ≠ k + 1 → gB (setE p l (k + 1) (gB p l (6 + 2 * k)) (gB p l (7 + 2 * k))) l (6 + 2 * j) = gB p l (6 + 2 * j) ∧ gB (setE p l (k + 1) (gB p l (6 + 2 * k)) (gB p l (7 + 2 * k))) l (7 + 2 * j) = gB p l (7 + 2 * j) := fun j hj hne => by
        have e := setE_k (p := p) (l := l) (x := gB p l (6 + 2 * k)) (y := gB p l (7 + 2 * k)) (i := k + 1) h4 hj
        rw [if_neg hne, if_neg hne] at e
        exact e
      have ek1 := setE_k (p := p) (l := l) (x := gB p l (6 + 2 * k)) (y := gB p l (7 + 2 * k)) (i := k + 1) h4 h4
      rw [if_pos rfl, if_pos rfl] at ek1
      revert a1 a2 a3 a4 a5
      generalize shE l key k (setE p l (k + 1) (gB p l (6 + 2 * k)) (gB p l (7 + 2 * k))) = z
      intro a1 a2 a3 a4 a5
      refine ⟨by omega, fun b w hw hc => ?_, fun j hj => ?_, fun j h1 h2 => ?_, fun h => ?_⟩
      · rw [a2 b w hw hc]
        rcases hc with hc | hc
        · exact setE_ne h4 hw hc
        · exact setE_lo h4 hc
      · rw [(a3 j hj).1, (a3 j hj).2]
        by_cases c1 : z.2 < j ∧ j ≤ k
        · rw [if_pos c1, if_pos c1, if_pos ⟨c1.1, by omega⟩, if_pos ⟨c1.1, by omega⟩]
          exact ek (j - 1) (by omega) (by omega)
        · rw [if_neg c1, if_neg c1]
          by_cases c2 : j = k + 1
          · have c3 : z.2 < j ∧ j ≤ k + 1 := by omega
            rw [if_pos c3, if_pos c3, c2]
            exact ek1
          · have c3 : ¬ (z.2 < j ∧ j ≤ k + 1) := by omega
            rw [if_neg c3, if_neg c3]
            exact ek j hj c2
      · by_cases c2 : j = k
        · rw [c2]
          exact c
        · have e := a4 j h1 (by omega)
          rw [(ek j (by omega) (by omega)).1] at e
          exact e
      · have e := a5 h
        rw [(ek (z.2 - 1) (by omega) (by omega)).1] at e
        exact e
theorem shE_same (hl : l < 32) : ∀ (k : Nat) (p : Nat → Int32), k < 4 → Same p (shE l key k p).1
  | 0, p, _ => Same.rf
  | k + 1, p, h4 => by
    have es : shE l key (k + 1) p = if gB p l (6 + 2 * k) ≤ key then (p, k + 1) else shE l key k (setE p l (k + 1) (gB p l (6 + 2 * k)) (gB p l (7 + 2 * k))) := rfl
    rw [es]
    split
    · exact Same.rf
    · exact (setE_same hl h4).tr (shE_same hl k _ (by omega))
theorem inE_ok (hl : l < 32) (h0 : gB p l 0 ≠ 0) (h1 : gB p l 1 = 0) (hn : n < 4) (hs : ∀ i j, i < j → j < n → gB p l (6 + 2 * i) < gB p l (6 + 2 * j)) (hne : ∀ i, i < n → gB p l (6 + 2 * i) ≠ key) : LeafOK (inE p l n key val n) l ∧ (∀ b w, w < 14 → (b ≠ l ∨ (w < 6 ∧ w ≠ 2)) → gB (inE p l n key val n) b w = gB p b w) ∧ Same p (inE p l n key val n) ∧ gB (inE p l n key val n) l 2 = nI (n + 1) := by
  obtain ⟨a1, a2, a3, a4, a5⟩ := shE_spec (l := l) (key := key) n p hn
  have a6 := shE_same (key := key) hl n p hn
  unfold inE
  revert a1 a2 a3 a4 a5 a6
  generalize shE l key n p = z
  intro a1 a2 a3 a4 a5 a6
  have s4 : z.2 < 4 := by omega
  have oth : ∀ b w, w < 14 → (b ≠ l ∨ (w < 6 ∧ w ≠ 2)) → gB (sB (setE z.1 l z.2 key val) l 2 (nI (n + 1))) b w = gB p b w := fun b w hw hc => by
    rw [gB_sB (by decide) hw, if_neg (by omega)]
    rcases hc with hc | hc
    · rw [setE_ne s4 hw hc]
      exact a2 b w hw (Or.inl hc)
    · rw [setE_lo s4 hc.1]
      exact a2 b w hw (Or.inr hc.1)
  have e2 : gB (sB (setE z.1 l z.2 key val) l 2 (nI (n + 1))) l 2 = nI (n + 1) := by
    rw [gB_sB (by decide) (by decide), if_pos ⟨rfl, rfl⟩]
  have n2 : nB (sB (setE z.1 l z.2 key val) l 2 (nI (n + 1))) l 2 = n + 1 := by
    unfold nB
    rw [e2, nI_clamp (by omega)]
  have ek : ∀ j, j < 4 → gB (sB (setE z.1 l z.2 key val) l 2 (nI (n + 1))) l (6 + 2 * j) = if j = z.2 then key else (if z.2 < j ∧ j ≤ n then gB p l (6 + 2 * (j - 1)) else gB p l (6 + 2 * j)) := fun j hj => by
    rw [gB_sB (by decide) (by omega), if_neg (by omega), (setE_k s4 hj).1, (a3 j hj).1]
  refine ⟨⟨hl, ?_, ?_, by rw [e2, n2], by rw [n2]; omega, by rw [n2]; omega, fun i j hij hj => ?_⟩, oth, a6.tr ((setE_same hl s4).tr (Same.sB hl (by decide))), e2⟩
  · rw [oth l 0 (by decide) (Or.inr ⟨by decide, by decide⟩)]
    exact h0
  · rw [oth l 1 (by decide) (Or.inr ⟨by decide, by decide⟩)]
    exact h1
  · rw [n2] at hj
    rw [ek i (by omega), ek j (by omega)]
    have below : ∀ i, i < z.2 → gB p l (6 + 2 * i) < key := fun i hi => by
      have e := Int32.lt_of_le_of_ne (a5 (by omega)) (hne (z.2 - 1) (by omega))
      by_cases c : i = z.2 - 1
      · rw [c]
        exact e
      · exact Int32.lt_trans (hs i (z.2 - 1) (by omega) (by omega)) e
    rcases Nat.lt_trichotomy j z.2 with cj | cj | cj
    · rw [if_neg (by omega), if_neg (by omega), if_neg (by omega), if_neg (by omega)]
      exact hs i j hij (by omega)
    · rw [if_neg (by omega), if_neg (by omega), if_pos cj]
      exact below i (by omega)
    · rw [if_neg (show ¬ j = z.2 by omega), if_pos (show z.2 < j ∧ j ≤ n by omega)]
      rcases Nat.lt_trichotomy i z.2 with ci | ci | ci
      · rw [if_neg (by omega), if_neg (by omega)]
        exact hs i (j - 1) (by omega) (by omega)
      · rw [if_pos ci]
        exact Int32.not_le.mp (a4 (j - 1) (by omega) (by omega))
      · rw [if_neg (by omega), if_pos (by omega)]
        exact hs (i - 1) (j - 1) (by omega) (by omega)
theorem ctE_spec : ∀ (m k : Nat) (p : Nat → Int32), k + m < 4 → (∀ b w, w < 14 → (b ≠ l ∨ w < 6) → gB (ctE l m k p) b w = gB p b w) ∧ (∀ j, j < 4 → gB (ctE l m k p) l (6 + 2 * j) = (if k ≤ j ∧ j < k + m then gB p l (6 + 2 * (j + 1)) else gB p l (6 + 2 * j)))
  | 0, k, p, _ => ⟨fun _ _ _ _ => rfl, fun j _ => (if_neg (by omega)).symm⟩
  | m + 1, k, p, h4 => by
    obtain ⟨a2, a3⟩ := ctE_spec m (k + 1) (setE p l k (gB p l (6 + 2 * (k + 1))) (gB p l (7 + 2 * (k + 1)))) (by omega)
    refine ⟨fun b w hw hc => ?_, fun j hj => ?_⟩
    · refine (a2 b w hw hc).trans ?_
      rcases hc with hc | hc
      · exact setE_ne (by omega) hw hc
      · exact setE_lo (by omega) hc
    · refine (a3 j hj).trans ?_
      have ek : ∀ j, j < 4 → gB (setE p l k (gB p l (6 + 2 * (k + 1))) (gB p l (7 + 2 * (k + 1)))) l (6 + 2 * j) = if j = k then gB p l (6 + 2 * (k + 1)) else gB p l (6 + 2 * j) := fun j hj => (setE_k (by omega) hj).1
      by_cases c1 : k + 1 ≤ j ∧ j < k + 1 + m
      · rw [if_pos c1, if_pos (by omega), ek (j + 1) (by omega), if_neg (by omega)]
      · rw [if_neg c1, ek j hj]
        by_cases c2 : j = k
        · rw [if_pos c2, if_pos (by omega), c2]
        · rw [if_neg c2, if_neg (by omega)]
theorem ctE_same (hl : l < 32) : ∀ (m k : Nat) (p : Nat → Int32), k + m < 4 → Same p (ctE l m k p)
  | 0, _, _, _ => Same.rf
  | m + 1, k, _, h4 => (setE_same hl (by omega)).tr (ctE_same hl m (k + 1) _ (by omega))
theorem cutE_ok (h : LeafOK p l) (hk : k < n) (hn : nB p l 2 = n) (h2 : 2 ≤ n) : LeafOK (sB (ctE l (n - 1 - k) k p) l 2 (nI (n - 1))) l ∧ (∀ b w, w < 14 → (b ≠ l ∨ (w < 6 ∧ w ≠ 2)) → gB (sB (ctE l (n - 1 - k) k p) l 2 (nI (n - 1))) b w = gB p b w) ∧ Same p (sB (ctE l (n - 1 - k) k p) l 2 (nI (n - 1))) := by
  obtain ⟨l1, l2, l3, l4, l5, l6, l7⟩ := h
  rw [hn] at l6 l7
  obtain ⟨a2, a3⟩ := ctE_spec (l := l) (n - 1 - k) k p (by omega)
  have oth : ∀ b w, w < 14 → (b ≠ l ∨ (w < 6 ∧ w ≠ 2)) → gB (sB (ctE l (n - 1 - k) k p) l 2 (nI (n - 1))) b w = gB p b w := fun b w hw hc => by
    rw [gB_sB (by decide) hw, if_neg (by omega)]
    exact a2 b w hw (by omega)
  have e2 : gB (sB (ctE l (n - 1 - k) k p) l 2 (nI (n - 1))) l 2 = nI (n - 1) := by
    rw [gB_sB (by decide) (by decide), if_pos ⟨rfl, rfl⟩]
  have n2 : nB (sB (ctE l (n - 1 - k) k p) l 2 (nI (n - 1))) l 2 = n - 1 := by
    unfold nB
    rw [e2, nI_clamp (by omega)]
  refine ⟨⟨l1, ?_, ?_, by rw [e2, n2], by rw [n2]; omega, by rw [n2]; omega, fun i j hij hj => ?_⟩, oth, (ctE_same l1 _ _ _ (by omega)).tr (Same.sB l1 (by decide))⟩
  · rw [oth l 0 (by decide) (Or.inr ⟨by decide, by decide⟩)]
    exact l2
  · rw [oth l 1 (by decide) (Or.inr ⟨by decide, by decide⟩)]
    exact l3
  · rw [n2] at hj
    rw [gB_sB (by decide) (by omega), if_neg (by omega), gB_sB (by decide) (by omega), if_neg (by omega), a3 i (by omega), a3 j (by omega)]
    have q1 : ∀ a c, a < c → c < n → gB p l (6 + 2 * a) < gB p l (6 + 2 * c) := l7
    by_cases ci : k ≤ i
    · rw [if_pos (by omega), if_pos (by omega)]
      exact q1 _ _ (by omega) (by omega)
    · rw [if_neg (by omega)]
      by_cases cj : k ≤ j
      · rw [if_pos (by omega)]
        exact q1 _ _ (by omega) (by omega)
      · rw [if_neg (by omega)]
        exact q1 _ _ (by omega) (by omega)
-- directories
theorem shL_spec : ∀ (m : Nat) (p : Nat → Int32), pl + m < 6 → (∀ b w, w < 14 → (b ≠ d ∨ w < 6) → gB (shL d pl m p) b w = gB p b w) ∧ (∀ i, i < 6 → gB (shL d pl m p) d (6 + i) = (if pl < i ∧ i ≤ pl + m then gB p d (6 + (i - 1)) else gB p d (6 + i)))
  | 0, p, _ => ⟨fun _ _ _ _ => rfl, fun j _ => (if_neg (by omega)).symm⟩
  | m + 1, p, h6 => by
    obtain ⟨a2, a3⟩ := shL_spec m (sB p d (6 + (pl + m + 1)) (gB p d (6 + (pl + m)))) (by omega)
    refine ⟨fun b w hw hc => ?_, fun i hi => ?_⟩
    · refine (a2 b w hw hc).trans ?_
      rw [gB_sB (by omega) hw, if_neg (by omega)]
    · refine (a3 i hi).trans ?_
      rw [gB_sB (by omega) (by omega), gB_sB (by omega) (by omega)]
      by_cases c1 : pl < i ∧ i ≤ pl + m
      · rw [if_pos c1, if_neg (by omega), if_pos (by omega)]
      · rw [if_neg c1]
        by_cases c2 : i = pl + m + 1
        · rw [if_pos ⟨rfl, by omega⟩, if_pos (by omega), c2]
          rfl
        · rw [if_neg (by omega), if_neg (by omega)]
theorem shL_same (hd : d < 32) : ∀ (m : Nat) (p : Nat → Int32), pl + m < 6 → Same p (shL d pl m p)
  | 0, _, _ => Same.rf
  | m + 1, _, h6 => (Same.sB hd (by omega)).tr (shL_same hd m _ (by omega))
theorem inL_spec (hd : d < 32) (hm : pl + m = n) (hn : n < 6) : (∀ b w, w < 14 → (b ≠ d ∨ (w < 6 ∧ w ≠ 2)) → gB (inL p d pl m x n) b w = gB p b w) ∧ gB (inL p d pl m x n) d 2 = nI (n + 1) ∧ (∀ i, i < n + 1 → gB (inL p d pl m x n) d (6 + i) = if i = pl then x else gB p d (6 + (if i < pl then i else i - 1))) ∧ Same p (inL p d pl m x n) := by
  obtain ⟨a2, a3⟩ := shL_spec (d := d) (pl := pl) m p (by omega)
  unfold inL
  refine ⟨fun b w hw hc => ?_, ?_, fun i hi => ?_, (shL_same hd m p (by omega)).tr ((Same.sB hd (by omega)).tr (Same.sB hd (by decide)))⟩
  · rw [gB_sB (by decide) hw, if_neg (by omega), gB_sB (by omega) hw, if_neg (by omega)]
    exact a2 b w hw (by omega)
  · rw [gB_sB (by decide) (by decide), if_pos ⟨rfl, rfl⟩]
  · rw [gB_sB (by decide) (by omega), if_neg (by omega), gB_sB (by omega) (by omega)]
    by_cases c : i = pl
    · rw [if_pos ⟨rfl, by omega⟩, if_pos c]
    · rw [if_neg (by omega), if_neg c, a3 i (by omega)]
      by_cases c2 : i < pl
      · rw [if_neg (by omega), if_pos c2]
      · rw [if_pos (by omega), if_neg c2]
theorem ctL_spec : ∀ (m k : Nat) (p : Nat → Int32), k + m < 6 → (∀ b w, w < 14 → (b ≠ d ∨ w < 6) → gB (ctL d m k p) b w = gB p b w) ∧ (∀ j, j < 6 → gB (ctL d m k p) d (6 + j) = (if k ≤ j ∧ j < k + m then gB p d (6 + (j + 1)) else gB p d (6 + j)))
  | 0, k, p, _ => ⟨fun _ _ _ _ => rfl, fun j _ => (if_neg (by omega)).symm⟩
  | m + 1, k, p, h6 => by
    obtain ⟨a2, a3⟩ := ctL_spec m (k + 1) (sB p d (6 + k) (gB p d (6 + (k + 1)))) (by omega)
    refine ⟨fun b w hw hc => ?_, fun j hj => ?_⟩
    · refine (a2 b w hw hc).trans ?_
      rw [gB_sB (by omega) hw, if_neg (by omega)]
    · refine (a3 j hj).trans ?_
      by_cases c1 : k + 1 ≤ j ∧ j < k + 1 + m
      · rw [if_pos c1, if_pos (by omega), gB_sB (by omega) (by omega), if_neg (by omega)]
      · rw [if_neg c1, gB_sB (by omega) (by omega)]
        by_cases c2 : j = k
        · rw [if_pos ⟨rfl, by omega⟩, if_pos (by omega), c2]
        · rw [if_neg (by omega), if_neg (by omega)]
theorem ctL_same (hd : d < 32) : ∀ (m k : Nat) (p : Nat → Int32), k + m < 6 → Same p (ctL d m k p)
  | 0, _, _, _ => Same.rf
  | m + 1, k, _, h6 => (Same.sB hd (by omega)).tr (ctL_same hd m (k + 1) _ (by omega))
theorem cuL_spec (hd : d < 32) (hk : pl < n) (hn : n ≤ 6) : (∀ b w, w < 14 → (b ≠ d ∨ (w < 6 ∧ w ≠ 2)) → gB (cuL p d pl n) b w = gB p b w) ∧ gB (cuL p d pl n) d 2 = nI (n - 1) ∧ (∀ i, i < n - 1 → gB (cuL p d pl n) d (6 + i) = gB p d (6 + (if i < pl then i else i + 1))) ∧ Same p (cuL p d pl n) := by
  obtain ⟨a2, a3⟩ := ctL_spec (d := d) (n - 1 - pl) pl p (by omega)
  unfold cuL
  refine ⟨fun b w hw hc => ?_, ?_, fun i hi => ?_, (ctL_same hd _ _ _ (by omega)).tr (Same.sB hd (by decide))⟩
  · rw [gB_sB (by decide) hw, if_neg (by omega)]
    exact a2 b w hw (by omega)
  · rw [gB_sB (by decide) (by decide), if_pos ⟨rfl, rfl⟩]
  · rw [gB_sB (by decide) (by omega), if_neg (by omega), a3 i (by omega)]
    by_cases c2 : i < pl
    · rw [if_neg (by omega), if_pos c2]
    · rw [if_pos (by omega), if_neg c2]
-- the split
theorem spL_eq : spL p l b s key val 5 0 P = setE (setE (setE (setE (setE P l 0 (spK p l s key 0) (spV p l s val 0)) l 1 (spK p l s key 1) (spV p l s val 1)) l 2 (spK p l s key 2) (spV p l s val 2)) b 0 (spK p l s key 3) (spV p l s val 3)) b 1 (spK p l s key 4) (spV p l s val 4) := rfl
theorem spB_oth (hw : w' < 14) (h : (b' ≠ l ∧ b' ≠ b) ∨ (w' < 6 ∧ w' ≠ 2)) : gB (spB p l b s key val P) b' w' = gB P b' w' := by
  unfold spB
  rw [gB_sB (by decide) hw, if_neg (by omega), gB_sB (by decide) hw, if_neg (by omega), spL_eq]
  rcases h with h | h
  · rw [setE_ne (by decide) hw h.2, setE_ne (by decide) hw h.2, setE_ne (by decide) hw h.1, setE_ne (by decide) hw h.1, setE_ne (by decide) hw h.1]
  · rw [setE_lo (by decide) h.1, setE_lo (by decide) h.1, setE_lo (by decide) h.1, setE_lo (by decide) h.1, setE_lo (by decide) h.1]
theorem spB_2l (h : l ≠ b) : gB (spB p l b s key val P) l 2 = nI 3 := by
  unfold spB
  rw [gB_sB (by decide) (by decide), if_neg (by omega), gB_sB (by decide) (by decide), if_pos ⟨rfl, rfl⟩]
  rfl
theorem spB_2b : gB (spB p l b s key val P) b 2 = nI 2 := by
  unfold spB
  rw [gB_sB (by decide) (by decide), if_pos ⟨rfl, rfl⟩]
  rfl
theorem spB_kl (h : l ≠ b) {j : Nat} (hj : j < 3) : gB (spB p l b s key val P) l (6 + 2 * j) = spK p l s key j ∧ gB (spB p l b s key val P) l (7 + 2 * j) = spV p l s val j := by
  unfold spB
  rw [gB_sB (by decide) (by omega), if_neg (by omega), gB_sB (by decide) (by omega), if_neg (by omega), gB_sB (by decide) (by omega), if_neg (by omega), gB_sB (by decide) (by omega), if_neg (by omega), spL_eq, setE_ne (by decide) (by omega) h, setE_ne (by decide) (by omega) h, setE_ne (by decide) (by omega) h, setE_ne (by decide) (by omega) h]
  rw [(setE_k (i := 2) (by decide) (show j < 4 by omega)).1, (setE_k (i := 2) (by decide) (show j < 4 by omega)).2, (setE_k (i := 1) (by decide) (show j < 4 by omega)).1, (setE_k (i := 1) (by decide) (show j < 4 by omega)).2, (setE_k (i := 0) (by decide) (show j < 4 by omega)).1, (setE_k (i := 0) (by decide) (show j < 4 by omega)).2]
  have hc : j = 0 ∨ j = 1 ∨ j = 2 := by omega
  rcases hc with rfl | rfl | rfl
  · exact ⟨rfl, rfl⟩
  · exact ⟨rfl, rfl⟩
  · exact ⟨rfl, rfl⟩
theorem spB_kb {j : Nat} (hj : j < 2) : gB (spB p l b s key val P) b (6 + 2 * j) = spK p l s key (3 + j) ∧ gB (spB p l b s key val P) b (7 + 2 * j) = spV p l s val (3 + j) := by
  unfold spB
  rw [gB_sB (by decide) (by omega), if_neg (by omega), gB_sB (by decide) (by omega), if_neg (by omega), gB_sB (by decide) (by omega), if_neg (by omega), gB_sB (by decide) (by omega), if_neg (by omega), spL_eq]
  rw [(setE_k (i := 1) (by decide) (show j < 4 by omega)).1, (setE_k (i := 1) (by decide) (show j < 4 by omega)).2, (setE_k (i := 0) (by decide) (show j < 4 by omega)).1, (setE_k (i := 0) (by decide) (show j < 4 by omega)).2]
  have hc : j = 0 ∨ j = 1 := by omega
  rcases hc with rfl | rfl
  · exact ⟨rfl, rfl⟩
  · exact ⟨rfl, rfl⟩
theorem spB_same (hl : l < 32) (hb : b < 32) : Same P (spB p l b s key val P) := by
  unfold spB
  rw [spL_eq]
  exact (((((((setE_same hl (by decide)).tr (setE_same hl (by decide))).tr (setE_same hl (by decide))).tr (setE_same hb (by decide))).tr (setE_same hb (by decide)))).tr (Same.sB hl (by decide))).tr (Same.sB hb (by decide))
theorem spK_lt (h : LeafOK p l) (h4 : nB p l 2 = 4) (hne : ∀ i, i < 4 → gB p l (6 + 2 * i) ≠ key) {i j : Nat} (hij : i < j) (hj : j < 5) : spK p l (spos p l key) key i < spK p l (spos p l key) key j := by
  have ht := spos_thr (key := key) h h4
  have hs := spos_le (p := p) (l := l) (key := key)
  have l7 := h.2.2.2.2.2.2
  rw [h4] at l7
  revert ht hs
  generalize spos p l key = s
  intro ht hs
  have up : ∀ i, i < 4 → s ≤ i → key < gB p l (6 + 2 * i) := fun i h1 h2 => by
    have q1 : ¬ gB p l (6 + 2 * i) < key := fun z => absurd ((ht i h1).mp z) (by omega)
    exact Int32.lt_of_le_of_ne (Int32.not_lt.mp q1) (fun z => hne i h1 z.symm)
  unfold spK
  rcases Nat.lt_trichotomy j s with cj | cj | cj
  · rw [if_neg (by omega), if_pos (by omega), if_neg (by omega), if_pos (by omega)]
    exact l7 i j hij (by omega)
  · rw [if_neg (by omega), if_pos (by omega), if_pos cj]
    exact (ht i (by omega)).mpr (by omega)
  · rw [if_neg (show ¬ j = s by omega), if_neg (show ¬ j < s by omega)]
    rcases Nat.lt_trichotomy i s with ci | ci | ci
    · rw [if_neg (by omega), if_pos ci]
      exact l7 i (j - 1) (by omega) (by omega)
    · rw [if_pos ci]
      exact up (j - 1) (by omega) (by omega)
    · rw [if_neg (by omega), if_neg (by omega)]
      exact l7 (i - 1) (j - 1) (by omega) (by omega)
theorem ein_none {key : Int32} (h : ein p l key = none) : ∀ i, i < nB p l 2 → gB p l (6 + 2 * i) ≠ key := fun i hi z => by
  have e := sr_none _ _ h i (by omega) (by omega)
  rw [decide_eq_true z] at e
  cases e
end PCLO
