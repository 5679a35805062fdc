/-! p28, PURE: a leaf split, the first leaf, at explicit pages -/
section PYSPL
variable {g : Nat} {μ μ' : Mem} {p p' p'' P Q : Nat → Int32} {d d' l b n k i j r f s m : Nat} {key val : Int32} {B : Int}
theorem nB_nI {x : Nat} (h : gB P l k = nI x) (hx : x < 2 ^ 31) : nB P l k = x := by
  unfold nB
  rw [h]
  exact nI_clamp hx
theorem spl28 (hi : INV B p) (hw : WX p) (hd : HasDraft p) (hl : nB p (fdp p) (6 + k) = l) (h41 : gB p l 4 = 1) (h4 : nB p l 2 = 4) (hpl : plc p (fdp p) key = some k) (hne : ein p l key = none) (h6 : nB p (fdp p) 2 < 6) (hn : nxt p = some b) (hK : KOK key) (hV : VOK val) (eP : P = inL (spB p l b (spos p l key) key val (dgB p b 0)) (fdp p) (k + 1) (nB p (fdp p) 2 - (k + 1)) (nI b) (nB p (fdp p) 2)) (hI : INV B P) : WX P ∧ FinX p P 1 ∧ vby P (drd P) key = val ∧ bofn P key = some 0 := by
  have hk := plc_lt hpl
  have hds := hw.dr hd
  have hb := nxt_lt hn
  obtain ⟨f1, f2, f3⟩ := nxt_free hi hn
  obtain ⟨g1, g2, g3, g4, g5, g6⟩ := hd.leafs hk
  rw [hl] at g1 g2 g3 g4 g5 g6
  have hd0 := hd
  obtain ⟨d1, d2, d3, d4, d5⟩ := hd0
  have hbd : fdp p ≠ b := fun z => f1 (by rw [← z]; exact d5.1.1)
  have hbl : l ≠ b := fun z => f1 (by rw [← z]; exact g3)
  have hz := ein_none hne
  rw [h4] at hz
  obtain ⟨s, es⟩ : ∃ s, spos p l key = s := ⟨_, rfl⟩
  have s1 : s ≤ 4 := by rw [← es]; exact spos_le
  have slt : ∀ i j, i < j → j < 5 → spK p l s key i < spK p l s key j := fun i j h1 h2 => by
    rw [← es]
    exact spK_lt g2 h4 hz h1 h2
  rw [es] at eP
  obtain ⟨a1, a2, a3, a4⟩ := inL_spec (p := spB p l b s key val (dgB p b 0)) (d := fdp p) (pl := k + 1) (m := nB p (fdp p) 2 - (k + 1)) (n := nB p (fdp p) 2) (x := nI b) d3.1 (by omega) h6
  rw [← eP] at a1 a2 a3 a4
  have hsm : Same p P := ((dgB_same hb).tr (spB_same g1 hb)).tr a4
  have hD := hsm.draft hI hd
  have ot : ∀ b' w, w < 14 → b' ≠ l → b' ≠ b → gB (spB p l b s key val (dgB p b 0)) b' w = gB p b' w := fun b' w hw h1 h2 => (spB_oth hw (Or.inl ⟨h1, h2⟩)).trans (dgB_ne h2 hw)
  -- other beds
  have eo : ∀ b' w, w < 14 → b' ≠ l → b' ≠ b → b' ≠ fdp p → gB P b' w = gB p b' w := fun b' w hw h1 h2 h3 => (a1 b' w hw (Or.inl h3)).trans (ot b' w hw h1 h2)
  -- the low fields
  have lo : ∀ b' w, w < 6 → w ≠ 2 → b' ≠ b → gB P b' w = gB p b' w := fun b' w h1 h2 h3 => (a1 b' w (by omega) (Or.inr ⟨h1, h2⟩)).trans ((spB_oth (by omega) (Or.inr ⟨h1, h2⟩)).trans (dgB_ne h3 (by omega)))
  have lob : ∀ w, w < 6 → w ≠ 2 → gB P b w = gB (dgB p b 0) b w := fun w h1 h2 => (a1 b w (by omega) (Or.inr ⟨h1, h2⟩)).trans (spB_oth (by omega) (Or.inr ⟨h1, h2⟩))
  have b0 : gB P b 0 = 1 := (lob 0 (by decide) (by decide)).trans dgB_eq.1
  have b1 : gB P b 1 = 0 := (lob 1 (by decide) (by decide)).trans dgB_eq.2.1
  have b4 : gB P b 4 = 1 := (lob 4 (by decide) (by decide)).trans dgB_eq.2.2.2.2.1
  -- the two leaves
  have l2 : gB P l 2 = nI 3 := (a1 l 2 (by decide) (Or.inl g5)).trans (spB_2l hbl)
  have b2 : gB P b 2 = nI 2 := (a1 b 2 (by decide) (Or.inl hbd.symm)).trans spB_2b
  have nl2 : nB P l 2 = 3 := nB_nI l2 (by decide)
  have nb2 : nB P b 2 = 2 := nB_nI b2 (by decide)
  have lk : ∀ j, j < 3 → gB P l (6 + 2 * j) = spK p l s key j ∧ gB P l (7 + 2 * j) = spV p l s val j := fun j hj => ⟨(a1 l _ (by omega) (Or.inl g5)).trans (spB_kl hbl hj).1, (a1 l _ (by omega) (Or.inl g5)).trans (spB_kl hbl hj).2⟩
  have bk : ∀ j, j < 2 → gB P b (6 + 2 * j) = spK p l s key (3 + j) ∧ gB P b (7 + 2 * j) = spV p l s val (3 + j) := fun j hj => ⟨(a1 b _ (by omega) (Or.inl hbd.symm)).trans (spB_kb hj).1, (a1 b _ (by omega) (Or.inl hbd.symm)).trans (spB_kb hj).2⟩
  -- the directory
  have en : nB P (fdp p) 2 = nB p (fdp p) 2 + 1 := nB_nI a2 (by omega)
  have eL : ∀ i, i < nB p (fdp p) 2 + 1 → nB P (fdp p) (6 + i) = if i = k + 1 then b else nB p (fdp p) (6 + (if i < k + 1 then i else i - 1)) := fun i hi2 => by
    have q := a3 i hi2
    by_cases c : i = k + 1
    · rw [if_pos c] at q ⊢
      exact nB_nI q (by omega)
    · rw [if_neg c] at q ⊢
      rw [ot _ _ (by split <;> omega) g5.symm hbd] at q
      exact nB_of q
  have nl : ∀ i, i < nB p (fdp p) 2 → i ≠ k → nB p (fdp p) (6 + i) ≠ l := fun i hi2 hne2 z => hne2 (d3.2.2.2.2.2.2 i k hi2 hk (z.trans hl.symm))
  have leb : ∀ i, i < nB p (fdp p) 2 → nB p (fdp p) (6 + i) ≠ b ∧ nB p (fdp p) (6 + i) ≠ fdp p := fun i hi2 => by
    obtain ⟨q1, q2, q3, q4, q5, q6⟩ := hd.leafs hi2
    exact ⟨fun z => f1 (by rw [← z]; exact q3), q5⟩
  -- a leaf's entries in the new directory, by what they were
  have ent : ∀ i, i < nB p (fdp p) 2 + 1 → (i = k ∧ nB P (fdp p) (6 + i) = l) ∨ (i = k + 1 ∧ nB P (fdp p) (6 + i) = b) ∨ (i ≠ k ∧ i ≠ k + 1 ∧ ∃ o, o < nB p (fdp p) 2 ∧ o ≠ k ∧ o = (if i < k + 1 then i else i - 1) ∧ nB P (fdp p) (6 + i) = nB p (fdp p) (6 + o) ∧ nB P (nB p (fdp p) (6 + o)) 2 = nB p (nB p (fdp p) (6 + o)) 2 ∧ ∀ w, 6 ≤ w → w < 14 → gB P (nB p (fdp p) (6 + o)) w = gB p (nB p (fdp p) (6 + o)) w) := fun i hi2 => by
    by_cases c1 : i = k
    · refine Or.inl ⟨c1, ?_⟩
      rw [eL i hi2, if_neg (by omega), if_pos (by omega), c1]
      exact hl
    · by_cases c2 : i = k + 1
      · exact Or.inr (Or.inl ⟨c2, by rw [eL i hi2, if_pos c2]⟩)
      · refine Or.inr (Or.inr ⟨c1, c2, (if i < k + 1 then i else i - 1), by split <;> omega, by split <;> omega, rfl, by rw [eL i hi2, if_neg c2], ?_⟩)
        have ho : (if i < k + 1 then i else i - 1) < nB p (fdp p) 2 := by split <;> omega
        have q1 := nl _ ho (by split <;> omega)
        obtain ⟨q2, q3⟩ := leb _ ho
        exact ⟨nB_of (eo _ 2 (by decide) q1 q2 q3), fun w h1 h2 => eo _ w h2 q1 q2 q3⟩
  have srt := fun j hj => sp_sorted (j := j) (s := s) (val := val) d3 hds hpl hl h4 s1 hK hV hj
  have hS : DirS P (fdp p) := by
    refine ⟨fun i j hi2 hj => ?_, fun i i' j j' h1 h2 h3 h5 => ?_⟩
    · rw [en] at hi2
      rcases ent i hi2 with ⟨c, e⟩ | ⟨c, e⟩ | ⟨c1, c2, o, ho, -, -, e, e2, e3⟩
      · rw [e] at hj ⊢
        rw [nl2] at hj
        rw [(lk j hj).1, (lk j hj).2]
        exact (srt j (by omega)).1
      · rw [e] at hj ⊢
        rw [nb2] at hj
        rw [(bk j hj).1, (bk j hj).2]
        exact (srt (3 + j) (by omega)).1
      · rw [e] at hj ⊢
        rw [e2] at hj
        have q4 := (d3.le4 ho).2
        rw [e3 _ (by omega) (by omega), e3 _ (by omega) (by omega)]
        exact hds.1 o j ho hj
    · rw [en] at h2
      have hi2 : i < nB p (fdp p) 2 + 1 := by omega
      rcases ent i hi2 with ⟨c, e⟩ | ⟨c, e⟩ | ⟨c1, c2, o, ho, hok, eo1, e, e2, e3⟩
      · rw [e] at h3 ⊢
        rw [nl2] at h3
        rw [(lk j h3).1]
        rcases ent i' h2 with ⟨c', e'⟩ | ⟨c', e'⟩ | ⟨c1', c2', o', ho', hok', eo1', e', e2', e3'⟩
        · omega
        · rw [e'] at h5 ⊢
          rw [nb2] at h5
          rw [(bk j' h5).1]
          exact slt _ _ (by omega) (by omega)
        · rw [e'] at h5 ⊢
          rw [e2'] at h5
          have q4 := (d3.le4 ho').2
          rw [e3' _ (by omega) (by omega)]
          have hko : k < o' := by rw [eo1', if_neg (by omega)]; omega
          exact (srt j (by omega)).2.2 o' j' hko ho' h5
      · rw [e] at h3 ⊢
        rw [nb2] at h3
        rw [(bk j h3).1]
        rcases ent i' h2 with ⟨c', e'⟩ | ⟨c', e'⟩ | ⟨c1', c2', o', ho', hok', eo1', e', e2', e3'⟩
        · omega
        · omega
        · rw [e'] at h5 ⊢
          rw [e2'] at h5
          have q4 := (d3.le4 ho').2
          rw [e3' _ (by omega) (by omega)]
          have hko : k < o' := by rw [eo1', if_neg (by omega)]; omega
          exact (srt (3 + j) (by omega)).2.2 o' j' hko ho' h5
      · rw [e] at h3 ⊢
        rw [e2] at h3
        have q4 := (d3.le4 ho).2
        rw [e3 _ (by omega) (by omega)]
        rcases ent i' h2 with ⟨c', e'⟩ | ⟨c', e'⟩ | ⟨c1', c2', o', ho', hok', eo1', e', e2', e3'⟩
        · rw [e'] at h5 ⊢
          rw [nl2] at h5
          rw [(lk j' h5).1]
          have hko : o < k := by rw [eo1, if_pos (by omega)]; omega
          exact (srt j' (by omega)).2.1 o j hko h3
        · rw [e'] at h5 ⊢
          rw [nb2] at h5
          rw [(bk j' h5).1]
          have hko : o < k := by rw [eo1, if_pos (by omega)]; omega
          exact (srt (3 + j') (by omega)).2.1 o j hko h3
        · rw [e'] at h5 ⊢
          rw [e2'] at h5
          have q5 := (d3.le4 ho').2
          rw [e3' _ (by omega) (by omega)]
          have hoo : o < o' := by
            rw [eo1, eo1']
            split <;> split <;> omega
          exact hds.2 o o' j j' hoo ho' h3 h5
  have hKe : KeepD p P := KeepD_of hi hsm (fun b' hb' h0 hnx w hw _ => eo b' w hw (fun z => by rw [z, h41] at h0; exact absurd h0 (by decide)) (fun z => hnx (by rw [z]; exact hn)) (fun z => by rw [z, d4] at h0; exact absurd h0 (by decide)))
  have edr : drd P = fdp p := (drd_fdp hD).trans hsm.fdpEq
  have hWX : WX P := by
    refine WX_gen hi hw hKe (fun b' hb' h0 => ?_) (fun b' hb' h0 => ?_) (by rw [edr]; exact hS) (fun _ => ?_)
    · by_cases c : b' = b
      · rw [c]
        exact Or.inl ⟨b1, 2, by decide, by decide, b2⟩
      · rw [lo b' 0 (by decide) (by decide) c] at h0
        rw [lo b' 1 (by decide) (by decide) c]
        by_cases c2 : b' = l
        · rw [c2]
          exact Or.inl ⟨g2.2.2.1, 3, by decide, by decide, l2⟩
        · by_cases c3 : b' = fdp p
          · rw [c3]
            exact Or.inr ⟨d3.2.2.1, nB p (fdp p) 2 + 1, by omega, a2⟩
          · rw [eo b' 2 (by decide) c2 c c3]
            exact hw.1 b' hb' h0
    · by_cases c : b' = b
      · rw [c, b0] at h0
        exact absurd h0 (by decide)
      · rw [lo b' 0 (by decide) (by decide) c] at h0
        exact ⟨h0, lo b' 3 (by decide) (by decide) c⟩
    · have hc : cd p ≠ b := fun z => f1 (by rw [← z]; exact hi.2.2.1.2.2.1.1)
      rw [lo _ 5 (by decide) (by decide) hc]
      exact hw.2.2.2.2.2.2.2 hd.nlt
  have hf4 : ∀ b', b' < 32 → b' ≠ b → gB P b' 4 = gB p b' 4 := fun b' _ hne2 => lo b' 4 (by decide) (by decide) hne2
  refine ⟨hWX, ⟨hKe, nNew_up hb (ne41 f3) b4 hf4, fun b' hb' h => ?_, fun _ b' hb' => ?_⟩, ?_⟩
  · by_cases c : b' = b
    · rw [c]
      exact b4
    · rw [hf4 b' hb' c]
      exact h
  · rw [hn] at hb'
    cases hb'
    exact b4
  · by_cases c : s < 3
    · refine done28 (k := k) (l := l) (j := s) hD (hWX.dr hD) (by rw [hsm.fdpEq, en]; omega) (by rw [hsm.fdpEq, eL k (by omega), if_neg (by omega), if_pos (by omega)]; exact hl) (by omega) ?_ ?_ (by rw [lo l 4 (by decide) (by decide) hbl]; exact h41)
      · rw [(lk s c).1]
        exact if_pos rfl
      · rw [(lk s c).2]
        exact if_pos rfl
    · refine done28 (k := k + 1) (l := b) (j := s - 3) hD (hWX.dr hD) (by rw [hsm.fdpEq, en]; omega) (by rw [hsm.fdpEq, eL (k + 1) (by omega), if_pos rfl]) (by omega) ?_ ?_ b4
      · rw [(bk (s - 3) (by omega)).1]
        exact if_pos (by omega)
      · rw [(bk (s - 3) (by omega)).2]
        exact if_pos (by omega)
theorem new28 (hi : INV B p) (hw : WX p) (hd : HasDraft p) (hz : nB p (fdp p) 2 = 0) (hn : nxt p = some b) (hK : KOK key) (hV : VOK val) (eP : P = inL (inE (dgB p b 0) b 0 key val 0) (fdp p) 0 (0 - 0) (nI b) 0) (hI : INV B P) : WX P ∧ FinX p P 1 ∧ vby P (drd P) key = val ∧ bofn P key = some 0 := by
  have hb := nxt_lt hn
  obtain ⟨f1, f2, f3⟩ := nxt_free hi hn
  have hd0 := hd
  obtain ⟨d1, d2, d3, d4, d5⟩ := hd0
  have hbd : fdp p ≠ b := fun z => f1 (by rw [← z]; exact d5.1.1)
  obtain ⟨e0, e1, e2, e3, e4, e5⟩ := dgB_eq (p := p) (b := b) (kind := 0)
  obtain ⟨o1, o2, o3, o4⟩ := inE_ok (p := dgB p b 0) (l := b) (n := 0) (key := key) (val := val) hb (by rw [e0]; decide) e1 (by decide) (fun i j _ hj => absurd hj (Nat.not_lt_zero j)) (fun i hi2 => absurd hi2 (Nat.not_lt_zero i))
  obtain ⟨s, s1, s2⟩ := inE_at (p := dgB p b 0) (l := b) (n := 0) (key := key) (val := val) hb (by decide)
  have es : s = 0 := by omega
  subst es
  obtain ⟨a1, a2, a3, a4⟩ := inL_spec (p := inE (dgB p b 0) b 0 key val 0) (d := fdp p) (pl := 0) (m := 0 - 0) (n := 0) (x := nI b) d3.1 (by omega) (by decide)
  rw [← eP] at a1 a2 a3 a4
  have hsm : Same p P := ((dgB_same hb).tr o3).tr a4
  have hD := hsm.draft hI hd
  have lo : ∀ b' w, w < 6 → w ≠ 2 → b' ≠ b → gB P b' w = gB p b' w := fun b' w h1 h2 h3 => (a1 b' w (by omega) (Or.inr ⟨h1, h2⟩)).trans ((o2 b' w (by omega) (Or.inl h3)).trans (dgB_ne h3 (by omega)))
  have lob : ∀ w, w < 6 → w ≠ 2 → gB P b w = gB (dgB p b 0) b w := fun w h1 h2 => (a1 b w (by omega) (Or.inr ⟨h1, h2⟩)).trans (o2 b w (by omega) (Or.inr ⟨h1, h2⟩))
  have eo : ∀ b' w, w < 14 → b' ≠ b → b' ≠ fdp p → gB P b' w = gB p b' w := fun b' w hw h2 h3 => (a1 b' w hw (Or.inl h3)).trans ((o2 b' w hw (Or.inl h2)).trans (dgB_ne h2 hw))
  have b0 : gB P b 0 = 1 := (lob 0 (by decide) (by decide)).trans e0
  have b1 : gB P b 1 = 0 := (lob 1 (by decide) (by decide)).trans e1
  have b4 : gB P b 4 = 1 := (lob 4 (by decide) (by decide)).trans e4
  have b2 : gB P b 2 = nI 1 := (a1 b 2 (by decide) (Or.inl hbd.symm)).trans o4
  have nb2 : nB P b 2 = 1 := nB_nI b2 (by decide)
  have bk : gB P b (6 + 2 * 0) = key ∧ gB P b (7 + 2 * 0) = val := by
    have q := s2 0 (by decide)
    exact ⟨(a1 b _ (by omega) (Or.inl hbd.symm)).trans (q.1.trans (if_pos rfl)), (a1 b _ (by omega) (Or.inl hbd.symm)).trans (q.2.trans (if_pos rfl))⟩
  have en : nB P (fdp p) 2 = 1 := nB_nI a2 (by decide)
  have eL : nB P (fdp p) (6 + 0) = b := nB_nI ((a3 0 (by decide)).trans (if_pos rfl)) (by omega)
  have hS : DirS P (fdp p) := by
    refine ⟨fun i j hi2 hj => ?_, fun i i' j j' h1 h2 h3 h5 => ?_⟩
    · rw [en] at hi2
      have ei : i = 0 := by omega
      subst ei
      rw [eL] at hj ⊢
      rw [nb2] at hj
      have ej : j = 0 := by omega
      subst ej
      rw [bk.1, bk.2]
      exact ⟨hK, hV⟩
    · rw [en] at h2
      omega
  have hKe : KeepD p P := KeepD_of hi hsm (fun b' hb' h0 hnx w hw _ => eo b' w hw (fun z => hnx (by rw [z]; exact hn)) (fun z => by rw [z, d4] at h0; exact absurd h0 (by decide)))
  have edr : drd P = fdp p := (drd_fdp hD).trans hsm.fdpEq
  have hWX : WX P := by
    refine WX_gen hi hw hKe (fun b' hb' h0 => ?_) (fun b' hb' h0 => ?_) (by rw [edr]; exact hS) (fun _ => ?_)
    · by_cases c : b' = b
      · rw [c]
        exact Or.inl ⟨b1, 1, by decide, by decide, b2⟩
      · rw [lo b' 0 (by decide) (by decide) c] at h0
        rw [lo b' 1 (by decide) (by decide) c]
        by_cases c3 : b' = fdp p
        · rw [c3]
          exact Or.inr ⟨d3.2.2.1, 1, by decide, a2⟩
        · rw [eo b' 2 (by decide) c c3]
          exact hw.1 b' hb' h0
    · by_cases c : b' = b
      · rw [c, b0] at h0
        exact absurd h0 (by decide)
      · rw [lo b' 0 (by decide) (by decide) c] at h0
        exact ⟨h0, lo b' 3 (by decide) (by decide) c⟩
    · have hc : cd p ≠ b := fun z => f1 (by rw [← z]; exact hi.2.2.1.2.2.1.1)
      rw [lo _ 5 (by decide) (by decide) hc]
      exact hw.2.2.2.2.2.2.2 hd.nlt
  have hf4 : ∀ b', b' < 32 → b' ≠ b → gB P b' 4 = gB p b' 4 := fun b' _ hne2 => lo b' 4 (by decide) (by decide) hne2
  refine ⟨hWX, ⟨hKe, nNew_up hb (ne41 f3) b4 hf4, fun b' hb' h => ?_, fun _ b' hb' => ?_⟩, ?_⟩
  · by_cases c : b' = b
    · rw [c]
      exact b4
    · rw [hf4 b' hb' c]
      exact h
  · rw [hn] at hb'
    cases hb'
    exact b4
  · exact done28 (k := 0) (l := b) (j := 0) hD (hWX.dr hD) (by rw [hsm.fdpEq, en]; decide) (by rw [hsm.fdpEq]; exact eL) (by rw [nb2]; decide) bk.1 bk.2 b4
end PYSPL
