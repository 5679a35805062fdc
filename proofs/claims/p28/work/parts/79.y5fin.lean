/-! p28, PURE: the last step of a put, at explicit pages -/
section PYFIN
variable {g : Nat} {μ μ' : Mem} {p p' p'' P Q : Nat → Int32} {d d' l b n k i j r f s m : Nat} {key val : Int32} {B : Int}
theorem KP.f4 (hi : INV B p) (hb : b < 32) (h : KP p b) : gB p b 4 = 0 := by
  rcases h with c | c
  · exact c.2
  · rcases (hi.2.1 b hb).2.1 with e | e
    · exact e
    · rw [((hi.2.1 b hb).2.2.2.1 e).1] at c
      exact absurd c.1 (by decide)
theorem KeepD_of (hi : INV B p) (hs : Same p P) (ho : ∀ b, b < 32 → gB p b 4 = 0 → nxt p ≠ some b → ∀ w, w < 14 → w ≠ 5 → gB P b w = gB p b w) : KeepD p P :=
  ⟨fun i h1 _ => hs i h1, fun b hb hk w hw h5 => ho b hb (hk.f4 hi hb) (fun z => hk.ne hi z rfl) w hw h5⟩
theorem sp_mem (hs : s ≤ n) (hj : j < n + 1) : (j = s ∧ spK p l s key j = key ∧ spV p l s val j = val) ∨ (j ≠ s ∧ ∃ j0, j0 < n ∧ spK p l s key j = gB p l (6 + 2 * j0) ∧ spV p l s val j = gB p l (7 + 2 * j0)) := by
  by_cases c : j = s
  · exact Or.inl ⟨c, if_pos c, if_pos c⟩
  · refine Or.inr ⟨c, ?_⟩
    unfold spK spV
    by_cases c2 : j < s
    · exact ⟨j, by omega, by rw [if_neg c, if_pos c2], by rw [if_neg c, if_pos c2]⟩
    · exact ⟨j - 1, by omega, by rw [if_neg c, if_neg c2], by rw [if_neg c, if_neg c2]⟩
theorem inE_at (hl : l < 32) (hn : n < 4) : ∃ s, s ≤ n ∧ ∀ j, j < n + 1 → gB (inE p l n key val n) l (6 + 2 * j) = spK p l s key j ∧ gB (inE p l n key val n) l (7 + 2 * j) = spV p l s val j := by
  obtain ⟨a1, a2, a3, a4, a5⟩ := shE_spec (l := l) (key := key) n p hn
  refine ⟨(shE l key n p).2, a1, fun j hj => ?_⟩
  have e := setE_k (p := (shE l key n p).1) (l := l) (x := key) (y := val) (i := (shE l key n p).2) (j := j) (by omega) (by omega)
  have u : ∀ w, w < 14 → w ≠ 2 → gB (inE p l n key val n) l w = gB (setE (shE l key n p).1 l (shE l key n p).2 key val) l w := fun w h1 h2 => (gB_sB (by decide) h1).trans (if_neg (fun z => h2 z.2))
  rw [u (6 + 2 * j) (by omega) (by omega), u (7 + 2 * j) (by omega) (by omega), e.1, e.2, (a3 j (by omega)).1, (a3 j (by omega)).2]
  unfold spK spV
  by_cases c : j = (shE l key n p).2
  · simp only [if_pos c, and_self]
  · simp only [if_neg c]
    by_cases c2 : j < (shE l key n p).2
    · simp only [if_pos c2, if_neg (show ¬ ((shE l key n p).2 < j ∧ j ≤ n) by omega), and_self]
    · simp only [if_neg c2, if_pos (show (shE l key n p).2 < j ∧ j ≤ n by omega), and_self]
/-- a leaf's entries and a new one, in order: their ranges, and that they stand between the leaves around -/
theorem sp_sorted (hd : DirOK p d) (hs : DirS p d) (e : plc p d key = some k) (hl : nB p d (6 + k) = l) (hm : nB p l 2 = m) (hsm : s ≤ m) (hK : KOK key) (hV : VOK val) (hj : j < m + 1) : (KOK (spK p l s key j) ∧ VOK (spV p l s val j)) ∧ (∀ i j', i < k → j' < nB p (nB p d (6 + i)) 2 → gB p (nB p d (6 + i)) (6 + 2 * j') < spK p l s key j) ∧ ∀ i j', k < i → i < nB p d 2 → j' < nB p (nB p d (6 + i)) 2 → spK p l s key j < gB p (nB p d (6 + i)) (6 + 2 * j') := by
  have hk := plc_lt e
  obtain ⟨c1, c2⟩ := plc_spec hd hs e
  rcases sp_mem (p := p) (l := l) (key := key) (val := val) hsm hj with ⟨-, a1, a2⟩ | ⟨-, j0, h0, a1, a2⟩
  · rw [a1, a2]
    exact ⟨⟨hK, hV⟩, c1, c2⟩
  · rw [a1, a2]
    have h0' : j0 < nB p (nB p d (6 + k)) 2 := by rw [hl, hm]; exact h0
    have q := hs.1 k j0 hk h0'
    rw [hl] at q
    refine ⟨q, fun i j' h1 h2 => ?_, fun i j' h1 h2 h3 => ?_⟩
    · have z := hs.2 i k j' j0 h1 hk h2 h0'
      rw [hl] at z
      exact z
    · have z := hs.2 k i j0 j' h1 h2 h0' h3
      rw [hl] at z
      exact z
theorem done28 (hd : HasDraft P) (hs : DirS P (fdp P)) (hk : k < nB P (fdp P) 2) (hl : nB P (fdp P) (6 + k) = l) (hj : j < nB P l 2) (e : gB P l (6 + 2 * j) = key) (ev : gB P l (7 + 2 * j) = val) (h4 : gB P l 4 = 1) : vby P (drd P) key = val ∧ bofn P key = some 0 := by
  subst hl
  obtain ⟨a, b⟩ := dfind hd.2.2.1 hs hk hj e
  have ed := drd_fdp hd
  have a' : plc P (drd P) key = some k := by rw [ed]; exact a
  refine ⟨by rw [ed]; exact (vby_2 a b).trans ev, ?_⟩
  rw [bofn_k a', if_neg (fun z => by rw [ed, b] at z; exact absurd z.1 (by simp)), ed]
  unfold dN cN
  rw [if_neg hd.nlt, if_pos h4]
theorem Same.draft (hs : Same p P) (hI : INV B P) (hd : HasDraft p) : HasDraft P := hI.draft (by rw [hs 467 (by decide)]; exact hd.nlt)
theorem WX.dr (hw : WX p) (hd : HasDraft p) : DirS p (fdp p) := by
  rw [← drd_fdp hd]
  exact hw.2.2.2.2.1
/-- an entry inserted into a leaf that has room -/
theorem ins28 (hi : INV B p) (hw : WX p) (hd : HasDraft p) (hl : nB p (fdp p) (6 + k) = l) (h41 : gB p l 4 = 1) (h4 : nB p l 2 < 4) (hpl : plc p (fdp p) key = some k) (hne : ein p l key = none) (hK : KOK key) (hV : VOK val) (eP : P = inE p l (nB p l 2) key val (nB p l 2)) (hI : INV B P) : WX P ∧ FinX p P 0 ∧ vby P (drd P) key = val ∧ bofn P key = some 0 := by
  have hk := plc_lt hpl
  have hds := hw.dr hd
  obtain ⟨g1, g2, g3, g4, g5, g6⟩ := hd.leafs hk
  rw [hl] at g1 g2 g3 g4 g5 g6
  obtain ⟨o1, o2, o3, o4⟩ := inE_ok (val := val) g1 g2.2.1 g2.2.2.1 h4 g2.2.2.2.2.2.2 (ein_none hne)
  obtain ⟨s, s1, s2⟩ := inE_at (p := p) (key := key) (val := val) g1 h4
  rw [← eP] at o1 o2 o3 o4 s2
  have hD := o3.draft hI hd
  have h6 := hd.2.2.1.2.2.2.2.1
  have hd1 := hd.2.2.1.1
  have e2 : nB P l 2 = nB p l 2 + 1 := by
    unfold nB
    rw [o4]
    exact nI_clamp (by have := g2.2.2.2.2.2.1; unfold nB at this; omega)
  have eD : ∀ w, w < 14 → gB P (fdp p) w = gB p (fdp p) w := fun w hw => o2 _ w hw (Or.inl g5.symm)
  have en : nB P (fdp p) 2 = nB p (fdp p) 2 := nB_of (eD 2 (by decide))
  have eL : ∀ i, i < nB p (fdp p) 2 → nB P (fdp p) (6 + i) = nB p (fdp p) (6 + i) := fun i hi2 => nB_of (eD _ (by omega))
  have nl : ∀ i, i < nB p (fdp p) 2 → i ≠ k → nB p (fdp p) (6 + i) ≠ l := fun i hi2 hne2 z => hne2 (hd.2.2.1.2.2.2.2.2.2 i k hi2 hk (z.trans hl.symm))
  have srt := fun j hj => sp_sorted (j := j) (s := s) (val := val) hd.2.2.1 hds hpl hl rfl s1 hK hV hj
  have hS : DirS P (fdp p) := by
    refine ⟨fun i j hi2 hj => ?_, fun i i' j j' h1 h2 h3 h5 => ?_⟩
    · rw [en] at hi2
      rw [eL i hi2] at hj ⊢
      by_cases c : i = k
      · rw [c, hl] at hj ⊢
        rw [e2] at hj
        rw [(s2 j hj).1, (s2 j hj).2]
        exact (srt j hj).1
      · have q := nl i hi2 c
        have q4 := (hd.2.2.1.le4 hi2).2
        rw [nB_of (o2 _ 2 (by decide) (Or.inl q))] at hj
        rw [o2 _ _ (by omega) (Or.inl q), o2 _ _ (by omega) (Or.inl q)]
        exact hds.1 i j hi2 hj
    · rw [en] at h2
      have hi2 : i < nB p (fdp p) 2 := by omega
      rw [eL i hi2] at h3 ⊢
      rw [eL i' h2] at h5 ⊢
      by_cases c : i = k
      · have c' : i' ≠ k := by omega
        have q := nl i' h2 c'
        have q4 := (hd.2.2.1.le4 h2).2
        rw [c, hl] at h3 ⊢
        rw [e2] at h3
        rw [nB_of (o2 _ 2 (by decide) (Or.inl q))] at h5
        rw [(s2 j h3).1, o2 _ _ (by omega) (Or.inl q)]
        exact (srt j h3).2.2 i' j' (by omega) h2 h5
      · have q := nl i hi2 c
        have q4 := (hd.2.2.1.le4 hi2).2
        rw [nB_of (o2 _ 2 (by decide) (Or.inl q))] at h3
        rw [o2 (nB p (fdp p) (6 + i)) _ (by omega) (Or.inl q)]
        by_cases c' : i' = k
        · rw [c', hl] at h5 ⊢
          rw [e2] at h5
          rw [(s2 j' h5).1]
          exact (srt j' h5).2.1 i j (by omega) h3
        · have q' := nl i' h2 c'
          have q5 := (hd.2.2.1.le4 h2).2
          rw [nB_of (o2 _ 2 (by decide) (Or.inl q'))] at h5
          rw [o2 _ _ (by omega) (Or.inl q')]
          exact hds.2 i i' j j' h1 h2 h3 h5
  have lo : ∀ b w, w < 6 → w ≠ 2 → gB P b w = gB p b w := fun b w h1 h2 => o2 b w (by omega) (Or.inr ⟨h1, h2⟩)
  have hKe : KeepD p P := KeepD_of hi o3 (fun b hb h0 _ w hw _ => o2 b w hw (Or.inl (fun z => by rw [z, h41] at h0; exact absurd h0 (by decide))))
  have edr : drd P = fdp p := (drd_fdp hD).trans o3.fdpEq
  have hWX : WX P := by
    refine WX_gen hi hw hKe (fun b hb h0 => ?_) (fun b hb h0 => ?_) (by rw [edr]; exact hS) (fun _ => ?_)
    · rw [lo b 0 (by decide) (by decide)] at h0
      rw [lo b 1 (by decide) (by decide)]
      by_cases c : b = l
      · rw [c]
        exact Or.inl ⟨g2.2.2.1, nB p l 2 + 1, by omega, by omega, o4⟩
      · rw [o2 b 2 (by decide) (Or.inl c)]
        exact hw.1 b hb h0
    · rw [lo b 0 (by decide) (by decide)] at h0
      exact ⟨h0, lo b 3 (by decide) (by decide)⟩
    · rw [lo _ 5 (by decide) (by decide)]
      exact hw.2.2.2.2.2.2.2 hd.nlt
  have hs' : s < nB P l 2 := by omega
  refine ⟨hWX, ⟨hKe, (nNew_eq (fun b hb => lo b 4 (by decide) (by decide))).trans (Nat.add_zero _).symm, fun b hb h => by rw [lo b 4 (by decide) (by decide)]; exact h, fun z => absurd z (by decide)⟩, ?_⟩
  refine done28 (k := k) (l := l) (j := s) hD (hWX.dr hD) (by rw [o3.fdpEq, en]; exact hk) (by rw [o3.fdpEq, eL k hk]; exact hl) hs' ?_ ?_ (by rw [lo l 4 (by decide) (by decide)]; exact h41)
  · rw [(s2 s (by omega)).1]
    exact if_pos rfl
  · rw [(s2 s (by omega)).2]
    exact if_pos rfl
/-- a value set anew -/
theorem set28 (hi : INV B p) (hw : WX p) (hd : HasDraft p) (hk : k < nB p (fdp p) 2) (hl : nB p (fdp p) (6 + k) = l) (h41 : gB p l 4 = 1) (he : ein p l key = some i) (hV : VOK val) (eP : P = setE p l i key val) (hI : INV B P) : WX P ∧ FinX p P 0 ∧ vby P (drd P) key = val ∧ bofn P key = some 0 := by
  have hds := hw.dr hd
  obtain ⟨g1, g2, g3, g4, g5, g6⟩ := hd.leafs hk
  rw [hl] at g1 g2 g3 g4 g5 g6
  obtain ⟨z1, z2⟩ := ein_lt he
  have h4 := g2.2.2.2.2.2.1
  have o3 : Same p P := by rw [eP]; exact setE_same g1 (by omega)
  have ne : ∀ b w, w < 14 → b ≠ l → gB P b w = gB p b w := fun b w hw hne => by rw [eP]; exact setE_ne (by omega) hw hne
  have lo : ∀ b w, w < 6 → gB P b w = gB p b w := fun b w hw => by rw [eP]; exact setE_lo (by omega) hw
  have ks : ∀ j, j < 4 → gB P l (6 + 2 * j) = gB p l (6 + 2 * j) ∧ gB P l (7 + 2 * j) = (if j = i then val else gB p l (7 + 2 * j)) := fun j hj => by
    have q := setE_k (p := p) (l := l) (x := key) (y := val) (i := i) (j := j) (by omega) hj
    rw [eP, q.1, q.2]
    refine ⟨?_, rfl⟩
    by_cases c : j = i
    · rw [if_pos c, c, z2]
    · rw [if_neg c]
  have hD := o3.draft hI hd
  have h6 := hd.2.2.1.2.2.2.2.1
  have e2 : nB P l 2 = nB p l 2 := nB_of (lo l 2 (by decide))
  have en : nB P (fdp p) 2 = nB p (fdp p) 2 := nB_of (lo _ 2 (by decide))
  have eL : ∀ i, i < nB p (fdp p) 2 → nB P (fdp p) (6 + i) = nB p (fdp p) (6 + i) := fun i hi2 => nB_of (ne _ _ (by omega) g5.symm)
  have eS : ∀ b, nB P b 2 = nB p b 2 := fun b => nB_of (lo b 2 (by decide))
  have eK : ∀ b j, j < 4 → gB P b (6 + 2 * j) = gB p b (6 + 2 * j) := fun b j hj => by
    by_cases c : b = l
    · rw [c]
      exact (ks j hj).1
    · exact ne b _ (by omega) c
  have hS : DirS P (fdp p) := by
    refine ⟨fun i2 j hi2 hj => ?_, fun i2 i' j j' h1 h2 h3 h5 => ?_⟩
    · rw [en] at hi2
      rw [eL i2 hi2] at hj ⊢
      rw [eS] at hj
      have q4 := (hd.2.2.1.le4 hi2).2
      have q := hds.1 i2 j hi2 hj
      rw [eK _ j (by omega)]
      refine ⟨q.1, ?_⟩
      by_cases c : nB p (fdp p) (6 + i2) = l
      · rw [c, (ks j (by omega)).2]
        by_cases c2 : j = i
        · rw [if_pos c2]
          exact hV
        · rw [if_neg c2, ← c]
          exact q.2
      · rw [ne _ _ (by omega) c]
        exact q.2
    · rw [en] at h2
      have hi2 : i2 < nB p (fdp p) 2 := by omega
      rw [eL i2 hi2] at h3 ⊢
      rw [eL i' h2] at h5 ⊢
      rw [eS] at h3 h5
      have q4 := (hd.2.2.1.le4 hi2).2
      have q5 := (hd.2.2.1.le4 h2).2
      rw [eK _ j (by omega), eK _ j' (by omega)]
      exact hds.2 i2 i' j j' h1 h2 h3 h5
  have hKe : KeepD p P := KeepD_of hi o3 (fun b hb h0 _ w hw _ => ne b w hw (fun z => by rw [z, h41] at h0; exact absurd h0 (by decide)))
  have edr : drd P = fdp p := (drd_fdp hD).trans o3.fdpEq
  have hWX : WX P := by
    refine WX_gen hi hw hKe (fun b hb h0 => ?_) (fun b hb h0 => ?_) (by rw [edr]; exact hS) (fun _ => ?_)
    · rw [lo b 0 (by decide)] at h0
      rw [lo b 1 (by decide), lo b 2 (by decide)]
      exact hw.1 b hb h0
    · rw [lo b 0 (by decide)] at h0
      exact ⟨h0, lo b 3 (by decide)⟩
    · rw [lo _ 5 (by decide)]
      exact hw.2.2.2.2.2.2.2 hd.nlt
  refine ⟨hWX, ⟨hKe, (nNew_eq (fun b hb => lo b 4 (by decide))).trans (Nat.add_zero _).symm, fun b hb h => by rw [lo b 4 (by decide)]; exact h, fun z => absurd z (by decide)⟩, ?_⟩
  refine done28 (k := k) (l := l) (j := i) hD (hWX.dr hD) (by rw [o3.fdpEq, en]; exact hk) (by rw [o3.fdpEq, eL k hk]; exact hl) (by rw [e2]; exact z1) ?_ ?_ (by rw [lo l 4 (by decide)]; exact h41)
  · rw [(ks i (by omega)).1]
    exact z2
  · rw [(ks i (by omega)).2]
    exact if_pos rfl
end PYFIN
