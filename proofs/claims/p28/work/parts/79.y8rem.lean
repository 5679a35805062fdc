/-! p28, PURE: remove, with all that the law asks of it -/
section PYREM
variable {g : Nat} {μ μ' : Mem} {p p' p'' P Q : Nat → Int32} {d d' l b n k i j r f s m : Nat} {key val : Int32} {B : Int}
theorem ctE_val : ∀ (m k : Nat) (p : Nat → Int32), k + m < 4 → (∀ j, j < 4 → gB (ctE l m k p) l (7 + 2 * j) = (if k ≤ j ∧ j < k + m then gB p l (7 + 2 * (j + 1)) else gB p l (7 + 2 * j)))
  | 0, k, p, _ => fun j _ => (if_neg (by omega)).symm
  | m + 1, k, p, h4 => by
    have a3 := ctE_val m (k + 1) (setE p l k (gB p l (6 + 2 * (k + 1))) (gB p l (7 + 2 * (k + 1)))) (by omega)
    intro j hj
    refine (a3 j hj).trans ?_
    have ek : ∀ j, j < 4 → gB (setE p l k (gB p l (6 + 2 * (k + 1))) (gB p l (7 + 2 * (k + 1)))) l (7 + 2 * j) = if j = k then gB p l (7 + 2 * (k + 1)) else gB p l (7 + 2 * j) := fun j hj => (setE_k (by omega) hj).2
    by_cases c1 : k + 1 ≤ j ∧ j < k + 1 + m
    · rw [if_pos c1, if_pos (by omega), ek (j + 1) (by omega), if_neg (by omega)]
    · rw [if_neg c1, ek j hj]
      by_cases c2 : j = k
      · rw [if_pos c2, if_pos (by omega), c2]
      · rw [if_neg c2, if_neg (by omega)]
/-- a key stands in one place alone -/
theorem only (hd : DirOK p d) (hs : DirS p d) (hk : k < nB p d 2) (hi : i < nB p (nB p d (6 + k)) 2) (e : gB p (nB p d (6 + k)) (6 + 2 * i) = key) {i' j' : Nat} (h1 : i' < nB p d 2) (h2 : j' < nB p (nB p d (6 + i')) 2) (e' : gB p (nB p d (6 + i')) (6 + 2 * j') = key) : i' = k ∧ j' = i := by
  obtain ⟨a, b⟩ := dfind hd hs hk hi e
  obtain ⟨a', b'⟩ := dfind hd hs h1 h2 e'
  rw [a] at a'
  have q := Option.some.inj a'
  subst q
  rw [b] at b'
  exact ⟨rfl, (Option.some.inj b').symm⟩
theorem ct_two {P : Nat → Bool} {a b : Nat} (n : Nat) (ha : a < n) (hb : b < n) (hab : a ≠ b) (h1 : P a = true) (h2 : P b = true) : 2 ≤ ct P n := by
  have e1 := ct_drop (P := P) (Q := fun x => if x = a then false else P x) n ha h1 (if_pos rfl) (fun j _ hne => (if_neg hne).symm)
  have e2 := ct_drop (P := fun x => if x = a then false else P x) (Q := fun x => if x = b then false else if x = a then false else P x) n hb (by show (if b = a then false else P b) = true; rw [if_neg hab.symm]; exact h2) (if_pos rfl) (fun j _ hne => (if_neg hne).symm)
  omega
theorem cut28 (hi : INV B p) (hw : WX p) (hd : HasDraft p) (hk : k < nB p (fdp p) 2) (hl : nB p (fdp p) (6 + k) = l) (h41 : gB p l 4 = 1) (h2 : 2 ≤ nB p l 2) (he : ein p l key = some i) (eP : P = sB (ctE l (nB p l 2 - 1 - i) i p) l 2 (nI (nB p l 2 - 1))) (hI : INV B P) : WX P ∧ KeepD p P ∧ nNew P = nNew p ∧ vby P (drd P) key = -1000 := by
  have hds := hw.dr hd
  obtain ⟨g1, g2, g3, g4, g5, g6⟩ := hd.leafs hk
  rw [hl] at g1 g2 g3 g4 g5 g6
  obtain ⟨z1, z2⟩ := ein_lt he
  have h4 := g2.2.2.2.2.2.1
  obtain ⟨o1, o2, o3⟩ := cutE_ok g2 z1 rfl h2
  obtain ⟨c1, c2⟩ := ctE_spec (l := l) (nB p l 2 - 1 - i) i p (by omega)
  have c3 := ctE_val (l := l) (nB p l 2 - 1 - i) i p (by omega)
  have es : ∀ j, j < nB p l 2 - 1 → gB P l (6 + 2 * j) = gB p l (6 + 2 * (if j < i then j else j + 1)) ∧ gB P l (7 + 2 * j) = gB p l (7 + 2 * (if j < i then j else j + 1)) := fun j hj => by
    have u : ∀ w, w < 14 → w ≠ 2 → gB (sB (ctE l (nB p l 2 - 1 - i) i p) l 2 (nI (nB p l 2 - 1))) l w = gB (ctE l (nB p l 2 - 1 - i) i p) l w := fun w q1 q2 => (gB_sB (by decide) q1).trans (if_neg (fun z => q2 z.2))
    rw [eP, u (6 + 2 * j) (by omega) (by omega), u (7 + 2 * j) (by omega) (by omega), c2 j (by omega), c3 j (by omega)]
    by_cases c : j < i
    · have e : (if j < i then j else j + 1) = j := if_pos c
      rw [e, if_neg (by omega), if_neg (by omega)]
      exact ⟨rfl, rfl⟩
    · have e : (if j < i then j else j + 1) = j + 1 := if_neg c
      rw [e, if_pos (by omega), if_pos (by omega)]
      exact ⟨rfl, rfl⟩
  have e2' : gB P l 2 = nI (nB p l 2 - 1) := by rw [eP, gB_sB (by decide) (by decide), if_pos ⟨rfl, rfl⟩]
  rw [← eP] at o1 o2 o3
  have e2 : nB P l 2 = nB p l 2 - 1 := nB_nI e2' (by omega)
  have hD := o3.draft hI hd
  have h6 := hd.2.2.1.2.2.2.2.1
  have d3 := hd.2.2.1
  have eD : ∀ w, w < 14 → gB P (fdp p) w = gB p (fdp p) w := fun w hw => o2 _ w hw (Or.inl g5.symm)
  have en : nB P (fdp p) 2 = nB p (fdp p) 2 := nB_of (eD 2 (by decide))
  have eL : ∀ i, i < nB p (fdp p) 2 → nB P (fdp p) (6 + i) = nB p (fdp p) (6 + i) := fun i hi2 => nB_of (eD _ (by omega))
  have nl : ∀ i, i < nB p (fdp p) 2 → i ≠ k → nB p (fdp p) (6 + i) ≠ l := fun i hi2 hne2 z => hne2 (d3.2.2.2.2.2.2 i k hi2 hk (z.trans hl.symm))
  have lo : ∀ b w, w < 6 → w ≠ 2 → gB P b w = gB p b w := fun b w h1 h2 => o2 b w (by omega) (Or.inr ⟨h1, h2⟩)
  -- each entry is one that was there, in the same leaf, at another place than the key's
  have ent : ∀ i' j, i' < nB p (fdp p) 2 → j < nB P (nB p (fdp p) (6 + i')) 2 → ∃ o, o < nB p (nB p (fdp p) (6 + i')) 2 ∧ ¬ (i' = k ∧ o = i) ∧ gB P (nB p (fdp p) (6 + i')) (6 + 2 * j) = gB p (nB p (fdp p) (6 + i')) (6 + 2 * o) ∧ gB P (nB p (fdp p) (6 + i')) (7 + 2 * j) = gB p (nB p (fdp p) (6 + i')) (7 + 2 * o) := fun i' j hi2 hj => by
    by_cases c : i' = k
    · rw [c, hl] at hj ⊢
      rw [e2] at hj
      exact ⟨if j < i then j else j + 1, by split <;> omega, by split <;> omega, (es j hj).1, (es j hj).2⟩
    · have q := nl i' hi2 c
      rw [nB_of (o2 _ 2 (by decide) (Or.inl q))] at hj
      have q4 := (d3.le4 hi2).2
      exact ⟨j, hj, fun z => c z.1, o2 _ _ (by omega) (Or.inl q), o2 _ _ (by omega) (Or.inl q)⟩
  have hS : DirS P (fdp p) := by
    refine ⟨fun i' j hi2 hj => ?_, fun i1 i2 j1 j2 h1 h2 h3 h5 => ?_⟩
    · rw [en] at hi2
      rw [eL i' hi2] at hj ⊢
      obtain ⟨o, q1, -, q2, q3⟩ := ent i' j hi2 hj
      rw [q2, q3]
      exact hds.1 i' o hi2 q1
    · rw [en] at h2
      have hi2 : i1 < nB p (fdp p) 2 := by omega
      rw [eL i1 hi2] at h3 ⊢
      rw [eL i2 h2] at h5 ⊢
      obtain ⟨o, q1, -, q2, -⟩ := ent i1 j1 hi2 h3
      obtain ⟨o', q1', -, q2', -⟩ := ent i2 j2 h2 h5
      rw [q2, q2']
      exact hds.2 i1 i2 o o' h1 h2 q1 q1'
  have hKe : KeepD p P := KeepD_of hi o3 (fun b hb h0 _ w hw _ => o2 b w hw (Or.inl (fun z => by rw [z, h41] at h0; exact absurd h0 (by decide))))
  have edr : drd P = fdp p := (drd_fdp hD).trans o3.fdpEq
  refine ⟨?_, hKe, (nNew_eq (fun b hb => lo b 4 (by decide) (by decide))), ?_⟩
  · refine WX_gen hi hw hKe (fun b hb h0 => ?_) (fun b hb h0 => ?_) (by rw [edr]; exact hS) (fun _ => ?_)
    · rw [lo b 0 (by decide) (by decide)] at h0
      rw [lo b 1 (by decide) (by decide)]
      by_cases c : b = l
      · rw [c]
        exact Or.inl ⟨g2.2.2.1, nB p l 2 - 1, by omega, by omega, e2'⟩
      · rw [o2 b 2 (by decide) (Or.inl c)]
        exact hw.1 b hb h0
    · rw [lo b 0 (by decide) (by decide)] at h0
      exact ⟨h0, lo b 3 (by decide) (by decide)⟩
    · rw [lo _ 5 (by decide) (by decide)]
      exact hw.2.2.2.2.2.2.2 hd.nlt
  · rw [edr]
    refine vby_none (fun i' j hi2 hj z => ?_)
    rw [en] at hi2
    rw [eL i' hi2] at hj z
    obtain ⟨o, q1, q5, q2, -⟩ := ent i' j hi2 hj
    rw [q2] at z
    exact q5 (only d3 hds hk (by rw [hl]; exact z1) (by rw [hl]; exact z2) hi2 q1 z)
theorem drp28 (hi : INV B p) (hw : WX p) (hd : HasDraft p) (hk : k < nB p (fdp p) 2) (hl : nB p (fdp p) (6 + k) = l) (h1 : nB p l 2 = 1) (he : ein p l key = some i) (hP : Same p P) (eP : ∀ b' w', b' < 32 → w' < 14 → gB P b' w' = gB (lvB (cuL p (fdp p) k (nB p (fdp p) 2)) l) b' w') (hI : INV B P) : WX P ∧ KeepD p P ∧ (if gB p l 4 = 1 then nNew p = nNew P + 1 else nNew P = nNew p) ∧ vby P (drd P) key = -1000 := by
  have hds := hw.dr hd
  have d3 := hd.2.2.1
  have h6 := d3.2.2.2.2.1
  obtain ⟨g1, g2, g3, g4, g5, g6⟩ := hd.leafs hk
  rw [hl] at g1 g2 g3 g4 g5 g6
  obtain ⟨z1, z2⟩ := ein_lt he
  obtain ⟨a1, a2, a3, a4⟩ := cuL_spec (p := p) (d := fdp p) d3.1 hk h6
  have e4 : gB (cuL p (fdp p) k (nB p (fdp p) 2)) l 4 = gB p l 4 := a1 l 4 (by decide) (Or.inl g5)
  have low : ∀ b' w, b' < 32 → w < 14 → b' ≠ l → (b' ≠ fdp p ∨ (w < 6 ∧ w ≠ 2)) → gB P b' w = gB p b' w := fun b' w hb' hw h1 h2 => by
    rw [eP b' w hb' hw, lvB_gB hw]
    by_cases c4 : gB (cuL p (fdp p) k (nB p (fdp p) 2)) l 4 = 1
    · rw [if_pos c4, if_neg h1]
      exact a1 b' w hw h2
    · rw [if_neg c4, if_neg (fun z => h1 z.1)]
      exact a1 b' w hw h2
  have dirF : ∀ w, w < 14 → gB P (fdp p) w = gB (cuL p (fdp p) k (nB p (fdp p) 2)) (fdp p) w := fun w hw => by
    rw [eP _ w d3.1 hw, lvB_gB hw]
    by_cases c4 : gB (cuL p (fdp p) k (nB p (fdp p) 2)) l 4 = 1
    · rw [if_pos c4, if_neg g5.symm]
    · rw [if_neg c4, if_neg (fun z => g5 z.1.symm)]
  have hlw : ∀ w, w < 14 → gB P l w = if gB p l 4 = 1 then 0 else if w = 5 then 1 else gB p l w := fun w hw => by
    rw [eP l w g1 hw, lvB_gB hw, e4]
    split
    · rw [if_pos rfl]
    · by_cases c : w = 5
      · rw [if_pos ⟨rfl, c⟩, if_pos c]
      · rw [if_neg (fun z => c z.2), if_neg c]
        exact a1 l w hw (Or.inl g5)
  have hD := hP.draft hI hd
  have en2 : gB P (fdp p) 2 = nI (nB p (fdp p) 2 - 1) := (dirF 2 (by decide)).trans a2
  have en : nB P (fdp p) 2 = nB p (fdp p) 2 - 1 := nB_nI en2 (by omega)
  have eL : ∀ i, i < nB p (fdp p) 2 - 1 → nB P (fdp p) (6 + i) = nB p (fdp p) (6 + (if i < k then i else i + 1)) := fun i hi2 => nB_of ((dirF _ (by omega)).trans (a3 i hi2))
  have nl : ∀ i, i < nB p (fdp p) 2 → i ≠ k → nB p (fdp p) (6 + i) ≠ l := fun i hi2 hne2 z => hne2 (d3.2.2.2.2.2.2 i k hi2 hk (z.trans hl.symm))
  have lfe : ∀ i, i < nB p (fdp p) 2 → i ≠ k → ∀ w, w < 14 → gB P (nB p (fdp p) (6 + i)) w = gB p (nB p (fdp p) (6 + i)) w := fun i hi2 hne2 w hw => by
    obtain ⟨q1, q2, q3, q4, q5, q6⟩ := hd.leafs hi2
    exact low _ w q1 hw (nl i hi2 hne2) (Or.inl q5)
  have ent : ∀ i', i' < nB p (fdp p) 2 - 1 → ∃ o, o < nB p (fdp p) 2 ∧ o ≠ k ∧ o = (if i' < k then i' else i' + 1) ∧ nB P (fdp p) (6 + i') = nB p (fdp p) (6 + o) ∧ nB P (nB p (fdp p) (6 + o)) 2 = nB p (nB p (fdp p) (6 + o)) 2 ∧ ∀ w, w < 14 → gB P (nB p (fdp p) (6 + o)) w = gB p (nB p (fdp p) (6 + o)) w := fun i' hi2 => by
    have ho : (if i' < k then i' else i' + 1) < nB p (fdp p) 2 := by split <;> omega
    have ho2 : (if i' < k then i' else i' + 1) ≠ k := by split <;> omega
    exact ⟨_, ho, ho2, rfl, eL i' hi2, nB_of (lfe _ ho ho2 2 (by decide)), fun w hw => lfe _ ho ho2 w hw⟩
  have hS : DirS P (fdp p) := by
    refine ⟨fun i' j hi2 hj => ?_, fun i1 i2 j1 j2 q1 q2 q3 q5 => ?_⟩
    · rw [en] at hi2
      obtain ⟨o, ho, hok, eo, e1, e2, e3⟩ := ent i' hi2
      rw [e1] at hj ⊢
      rw [e2] at hj
      have q4 := (d3.le4 ho).2
      rw [e3 _ (by omega), e3 _ (by omega)]
      exact hds.1 o j ho hj
    · rw [en] at q2
      obtain ⟨o, ho, hok, eo, e1, e2, e3⟩ := ent i1 (by omega)
      obtain ⟨o', ho', hok', eo', e1', e2', e3'⟩ := ent i2 q2
      rw [e1] at q3 ⊢
      rw [e1'] at q5 ⊢
      rw [e2] at q3
      rw [e2'] at q5
      have q4 := (d3.le4 ho).2
      have q6 := (d3.le4 ho').2
      rw [e3 _ (by omega), e3' _ (by omega)]
      refine hds.2 o o' j1 j2 ?_ ho' q3 q5
      rw [eo, eo']
      split <;> split <;> omega
  have d4 : gB p (fdp p) 4 = 1 := hd.2.2.2.1
  have hKe : KeepD p P := KeepD_of hi hP (fun b hb h0 _ w hw h5 => by
    by_cases c : b = l
    · rw [c] at h0 ⊢
      rw [hlw w hw, if_neg (by rw [h0]; decide), if_neg h5]
    · exact low b w hb hw c (Or.inl (fun z => by rw [z, d4] at h0; exact absurd h0 (by decide))))
  have edr : drd P = fdp p := (drd_fdp hD).trans hP.fdpEq
  refine ⟨?_, hKe, ?_, ?_⟩
  · refine WX_gen hi hw hKe (fun b hb h0 => ?_) (fun b hb h0 => ?_) (by rw [edr]; exact hS) (fun _ => ?_)
    · by_cases c : b = l
      · rw [c] at h0 ⊢
        rw [hlw 0 (by decide)] at h0
        by_cases c4 : gB p l 4 = 1
        · rw [if_pos c4] at h0
          exact absurd rfl h0
        · rw [hlw 1 (by decide), hlw 2 (by decide), if_neg c4, if_neg c4, if_neg (by decide), if_neg (by decide)]
          exact hw.1 l g1 g2.2.1
      · rw [low b 0 hb (by decide) c (Or.inr ⟨by decide, by decide⟩)] at h0
        rw [low b 1 hb (by decide) c (Or.inr ⟨by decide, by decide⟩)]
        by_cases c3 : b = fdp p
        · rw [c3]
          exact Or.inr ⟨d3.2.2.1, nB p (fdp p) 2 - 1, by omega, en2⟩
        · rw [low b 2 hb (by decide) c (Or.inl c3)]
          exact hw.1 b hb h0
    · by_cases c : b = l
      · rw [c] at h0 ⊢
        rw [hlw 0 (by decide)] at h0
        by_cases c4 : gB p l 4 = 1
        · rw [if_pos c4] at h0
          exact absurd h0 (by decide)
        · rw [if_neg c4, if_neg (by decide), g3] at h0
          exact absurd h0 (by decide)
      · rw [low b 0 hb (by decide) c (Or.inr ⟨by decide, by decide⟩)] at h0
        exact ⟨h0, low b 3 hb (by decide) c (Or.inr ⟨by decide, by decide⟩)⟩
    · have hc : cd p ≠ l := fun z => by
        have q := hi.2.2.1.2.1.2.2.1
        rw [z, g2.2.2.1] at q
        exact absurd q (by decide)
      rw [low _ 5 hi.2.2.1.2.1.1 (by decide) hc (Or.inr ⟨by decide, by decide⟩)]
      exact hw.2.2.2.2.2.2.2 hd.nlt
  · have ho : ∀ b, b < 32 → b ≠ l → gB P b 4 = gB p b 4 := fun b hb hne => low b 4 hb (by decide) hne (Or.inr ⟨by decide, by decide⟩)
    split
    · rename_i c4
      refine ct_drop 32 g1 (decide_eq_true c4) (decide_eq_false (by rw [hlw 4 (by decide), if_pos c4]; decide)) (fun j hj hne => ?_)
      show decide (gB p j 4 = 1) = decide (gB P j 4 = 1)
      rw [ho j hj hne]
    · rename_i c4
      refine nNew_eq (fun b hb => ?_)
      by_cases c : b = l
      · rw [c, hlw 4 (by decide), if_neg c4, if_neg (by decide)]
      · exact ho b hb c
  · rw [edr]
    refine vby_none (fun i' j hi2 hj z => ?_)
    rw [en] at hi2
    obtain ⟨o, q1, hok, eo, e1, e2, e3⟩ := ent i' hi2
    rw [e1] at hj z
    rw [e2] at hj
    have q4 := (d3.le4 q1).2
    rw [e3 _ (by omega)] at z
    exact hok (only d3 hds hk (by rw [hl]; exact z1) (by rw [hl]; exact z2) q1 hj z).1
theorem rem28 (h : RG g μ p) (hi : INV B p) (hw : WX p) (hd : p 466 = 1) (e : plc p (drd p) key = some k) (hl : nB p (drd p) (6 + k) = l) (e2 : ein p l key = some i) (hm : dN p + rmN p l ≤ many p) : ∃ (p' : Nat → Int32) (μ' : Mem), f_X4_removeEntry g key μ = some (vby p (drd p) key, μ') ∧ RG g μ' p' ∧ GFr g μ μ' ∧ INV B p' ∧ WX p' ∧ KeepD p p' ∧ vby p' (drd p') key = -1000 ∧ nNew p' ≤ nNew p + 2 ∧ (nNew p ≤ nNew p' ∨ 1 < nNew p) := by
  have hdd := hi.dd.2
  have hmm : many p ≤ 32 := ct_le 32
  have hk := plc_lt e
  have ev : vby p (drd p) key = gB p l (7 + 2 * i) := by
    have z := vby_2 e (i := i) (by rw [hl]; exact e2)
    rw [hl] at z
    exact z
  have hdn := dN_le (p := p)
  obtain ⟨p1, μ1, a1, a2, a3, a4, a5, aw, ax, a8, a9⟩ := dir28 h hi hw hd (by omega)
  have epl : plc p1 (fdp p1) key = some k := (plc_cg a8 (fun i hi2 => ⟨(a9 i hi2).1, (a9 i hi2).2 6 (by decide)⟩)).trans e
  have hb1 := a2.dbed a4 a5
  have hk1 : k < nB p1 (fdp p1) 2 := by rw [a8]; exact hk
  have hl1 : nB p1 (fdp p1) (6 + k) = l := (a9 k hk).1.trans hl
  have hc1 : ∀ w, w < 14 → gB p1 l w = gB p l w := fun w hw => by
    have z := (a9 k hk).2 w hw
    rw [hl] at z
    exact z
  have hlp : gB p (drd p) (6 + k) = nI l ∧ LeafOK p l := by
    have z := hdd.2.2.2.2.2.1 k hk
    rw [hl] at z
    exact z
  have l4 := hlp.2.2.2.2.2.2.1
  have l1' := hlp.2.2.2.2.2.1
  have hii := (ein_lt e2).1
  obtain ⟨t1, t2, t3, t4, t5, t6⟩ := a5.leafs hk1
  rw [hl1] at t1 t2 t3 t4 t5 t6
  have en1 : nB p1 l 2 = nB p l 2 := nB_of (hc1 2 (by decide))
  have ee1 : ein p1 l key = some i := (ein_cg en1 (fun i hi2 => hc1 _ (by omega))).trans e2
  have hlf := a2.1.leaf a5.2.2.1 hk1
  rw [hl1] at hlf
  have hv : f_X1_valueAt (g + 1) (nI l) (nI i) μ1 = some (gB p l (7 + 2 * i)) := by
    rw [a2.1.val t2 (by omega), hc1 _ (by omega)]
  have hcls : f_X4_removeEntry g key μ = (if nI (nB p l 2) = 1 then (f_X1_cutLeaf (g + 1) (nI (fdp p1)) (nI k) μ1).bind (fun μ11 => (f_X1_leave (g + 1) (nI l) μ11).bind (fun μ12 => f_X4_removeEntry_b110 g (gB p l (7 + 2 * i)) μ12)) else bn2 (f_X4_ownLeaf g (nI k) μ1) (fun v7 μ8 => (f_X1_entryPlace (g + 1) v7 key μ8).bind (fun v9 => (f_X1_cutEntry (g + 1) v7 v9 μ8).bind (fun μ10 => f_X4_removeEntry_b110 g (gB p l (7 + 2 * i)) μ10)))) := by
    unfold f_X4_removeEntry
    rw [a1, Option.bind_some, hb1, a2.1.leafPlace a5.2.2.1, epl, Option.bind_some, show oI (-1000) (some k) = nI k from rfl, hlf, Option.bind_some, a2.1.entryPlace t2, ee1, Option.bind_some, show oI (-1000) (some i) = nI i from rfl, hv, Option.bind_some, a2.1.size t1 t2.2.1, t2.2.2.2.1, en1, Option.bind_some]
  rw [ev]
  have hx := ax.2.2
  by_cases c1 : nB p l 2 = 1
  · obtain ⟨μ2, μ3, b1, b2, b3, b4, b5, b6⟩ := a2.dropLX a4 a5 hk1 hl1
    have hsm : Same p1 (cuL (lvB p1 l) (fdp p1) k (nB p1 (fdp p1) 2)) := (lvB_same t1).tr (cuL_spec (p := lvB p1 l) (d := fdp p1) a5.2.2.1.1 hk1 a5.2.2.1.2.2.2.2.1).2.2.2
    obtain ⟨x1, x2, x3, x4⟩ := drp28 a4 aw a5 hk1 hl1 (en1.trans c1) ee1 hsm b6 b5
    have hnn := hx.2.1
    refine ⟨_, μ3, ?_, b3, a3.tr b4, b5, x1, hx.1.tr x2, x4, ?_, ?_⟩
    · rw [hcls, if_pos (show nI (nB p l 2) = 1 from congrArg nI c1), b1, Option.bind_some, b2, Option.bind_some]
      rfl
    · split at x3 <;> omega
    · split at x3
      · rename_i c4
        right
        have hdn0 : dN p = 0 := by
          by_cases hl0 : p 467 < 0
          · exfalso
            rcases hi.2.2.2.2.2.1 with q | q
            · have q1 := (q.2 l hlp.2.1).1
              rw [hc1 4 (by decide), q1] at c4
              exact absurd c4 (by decide)
            · exact q.nlt hl0
          · exact if_neg hl0
        have h2 : 2 ≤ nNew p1 := ct_two 32 t1 a5.2.2.1.1 t5 (decide_eq_true c4) (decide_eq_true a5.2.2.2.1)
        omega
      · left
        omega
  · have c1' : ¬ nI (nB p l 2) = 1 := fun z => c1 (nI_inj (b := 1) (by omega) (by omega) z)
    have erm : rmN p l = cN p l := if_neg c1
    have ecn : cN p1 l = cN p l := by
      unfold cN
      rw [hc1 4 (by decide)]
    have hm1 := ax.1
    obtain ⟨p2, μ2, l1, b1, b2, b3, b4, b5, bw, b6, bx, b9, b10, b11, b12, bdq⟩ := own28 a2 a4 aw a5 hk1 hl1 (by omega)
    have hc2 : ∀ w, w < 14 → (w = 2 ∨ 6 ≤ w) → gB p2 l1 w = gB p l w := fun w hw hz => (b12 w hw hz).trans (hc1 w hw)
    have en2 : nB p2 l1 2 = nB p l 2 := nB_of (hc2 2 (by decide) (Or.inl rfl))
    have eei : ein p2 l1 key = some i := (ein_cg en2 (fun i hi2 => hc2 _ (by omega) (Or.inr (by omega)))).trans e2
    rw [← b6] at b9 b10
    have hk2 : k < nB p2 (fdp p2) 2 := by rw [b9, b6]; exact hk1
    obtain ⟨s1, s2, s3, s4, s5, s6⟩ := b5.leafs hk2
    rw [b10] at s1 s2 s3 s4 s5 s6
    obtain ⟨μ3, d1, d2, d3, d4⟩ := b2.cutEX b4 b5 hk2 b10 b11 (i := i) (by omega) (by omega)
    obtain ⟨x1, x2, x3, x4⟩ := cut28 b4 bw b5 hk2 b10 b11 (by omega) eei rfl d4
    have hx2 := ax.tr bx
    have hnn := hx2.2.2.2.1
    have hcn := cN_le (p := p1) (l := l)
    refine ⟨_, μ3, ?_, d2, (a3.tr b3).tr d3, d4, x1, hx2.2.2.1.tr x2, x4, by omega, Or.inl (by omega)⟩
    rw [hcls, if_neg c1', b1, bn2_some, b2.1.entryPlace s2, eei, Option.bind_some, show oI (-1000) (some i) = nI i from rfl, d1, Option.bind_some]
    rfl
end PYREM
