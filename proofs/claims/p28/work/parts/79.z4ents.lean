/-! p28, PURE: the law's look at the entries -/
section PZENT
variable {q : Nat} {μ μ0 μ' : Mem} {p p' p'' P Q : Nat → Int32} {d d' l b n k i j r f s m a w c fu z K J : Nat} {key val x1 x2 x3 x4 x m1 m2 : Int32} {B : Int}
theorem loc_at : ∀ (K n k J : Nat), K < n → J < nB p (nB p d (6 + (k + K))) 2 → loc p d n k (enf p d K k + J) = some (k + K, J)
  | 0, n, k, J, h1, h2 => by
    obtain ⟨n, rfl⟩ : ∃ z, n = z + 1 := ⟨n - 1, by omega⟩
    have e : enf p d 0 k + J = J := Nat.zero_add J
    rw [e]
    exact loc_y h2
  | K + 1, n, k, J, h1, h2 => by
    obtain ⟨n, rfl⟩ : ∃ z, n = z + 1 := ⟨n - 1, by omega⟩
    have e2 : k + (K + 1) = k + 1 + K := by omega
    rw [e2] at h2 ⊢
    rw [enf_s, loc_n (by omega), show nB p (nB p d (6 + k)) 2 + enf p d K (k + 1) + J - nB p (nB p d (6 + k)) 2 = enf p d K (k + 1) + J by omega]
    exact loc_at K n (k + 1) J (by omega) h2
theorem enf_r : enf p d (K + 1) 0 = enf p d K 0 + nB p (nB p d (6 + K)) 2 := by
  unfold enf
  rw [lp_split K 1 0 0, Nat.zero_add]
  rfl
theorem enf_le : ∀ (m K : Nat), enf p d K 0 ≤ enf p d (K + m) 0
  | 0, K => Nat.le_refl _
  | m + 1, K => by
    have e := enf_le m K
    have e2 := enf_r (p := p) (d := d) (K := K + m)
    have e3 : K + (m + 1) = K + m + 1 := rfl
    rw [e3, e2]
    omega
theorem enf_lt (hK : K < nB p d 2) (hJ : J < nB p (nB p d (6 + K)) 2) : enf p d K 0 + J < ens p d := by
  have e1 := enf_r (p := p) (d := d) (K := K)
  have e2 := enf_le (p := p) (d := d) (nB p d 2 - (K + 1)) (K + 1)
  rw [show K + 1 + (nB p d 2 - (K + 1)) = nB p d 2 by omega, enf_ens] at e2
  omega
theorem entry_e (h : J28 B μ p) (hK : K < nB p (cd p) 2) (hJ : J < nB p (nB p (cd p) (6 + K)) 2) (hw : w < 4) : f_X6_entry 0 (nI (enf p (cd p) K 0 + J)) (nI w) μ = some (tev p (cd p) (nI w) (K, J)) := by
  have hd := h.2.1.2.2.1.2.1
  have hlt := enf_lt hK hJ
  have h24 := ens_lt hd
  have hl := loc_at (p := p) (d := cd p) K (nB p (cd p) 2) 0 J hK (by rw [Nat.zero_add]; exact hJ)
  rw [Nat.zero_add] at hl
  have hw4 : nI w = 0 ∨ nI w = 1 ∨ nI w = 2 ∨ nI w = 3 := by
    have hcase : w = 0 ∨ w = 1 ∨ w = 2 ∨ w = 3 := by omega
    rcases hcase with rfl | rfl | rfl | rfl
    · exact Or.inl rfl
    · exact Or.inr (Or.inl rfl)
    · exact Or.inr (Or.inr (Or.inl rfl))
    · exact Or.inr (Or.inr (Or.inr rfl))
  unfold f_X6_entry f_X4_currentEntries f_X4_entryPart
  rw [h.rg.curDir h.2.1, Option.bind_some, h.rg.1.entriesIn hd, Option.bind_some, Option.bind_some, part_y (nI (ens p (cd p))) 4 (n1 := ens p (cd p)) (n2 := 4) hlt hw (by omega) (by decide) rfl rfl, Option.bind_some, refuse00, Option.bind_some, Option.bind_some, h.rg.1.entryPartIn hd hw4 (by omega) hl, Option.bind_some, Option.bind_some]
theorem ent0 (h : J28 B μ p) (hK : K < nB p (cd p) 2) (hJ : J < nB p (nB p (cd p) (6 + K)) 2) (hr : r = enf p (cd p) K 0 + J) : f_X6_entry 0 (nI r) 0 μ = some (gB p (nB p (cd p) (6 + K)) (6 + 2 * J)) := by
  rw [hr]
  exact entry_e (w := 0) h hK hJ (by decide)
theorem ent1 (h : J28 B μ p) (hK : K < nB p (cd p) 2) (hJ : J < nB p (nB p (cd p) (6 + K)) 2) (hr : r = enf p (cd p) K 0 + J) : f_X6_entry 0 (nI r) 1 μ = some (gB p (nB p (cd p) (6 + K)) (7 + 2 * J)) := by
  rw [hr]
  exact entry_e (w := 1) h hK hJ (by decide)
theorem ent2 (h : J28 B μ p) (hK : K < nB p (cd p) 2) (hJ : J < nB p (nB p (cd p) (6 + K)) 2) (hr : r = enf p (cd p) K 0 + J) : f_X6_entry 0 (nI r) 2 μ = some (nI (nB p (cd p) (6 + K))) := by
  rw [hr]
  exact entry_e (w := 2) h hK hJ (by decide)
theorem ent3 (h : J28 B μ p) (hK : K < nB p (cd p) 2) (hJ : J < nB p (nB p (cd p) (6 + K)) 2) (hr : r = enf p (cd p) K 0 + J) : f_X6_entry 0 (nI r) 3 μ = some (nI J) := by
  rw [hr]
  exact entry_e (w := 3) h hK hJ (by decide)
def vsm (p : Nat → Int32) (d K J : Nat) : Int32 := dsum p d K 0 + lp (fun i (a : Int32) => a + gB p (nB p d (6 + K)) (7 + 2 * i)) J 0 0
theorem vsm_s : vsm p d K J + gB p (nB p d (6 + K)) (7 + 2 * J) = vsm p d K (J + 1) := by
  unfold vsm
  rw [lp_split J 1 0 0, Int32.add_assoc, Nat.zero_add]
  rfl
theorem vsm_n (e : J = nB p (nB p d (6 + K)) 2) : vsm p d K J = vsm p d (K + 1) 0 := by
  unfold vsm dsum
  rw [lp_split K 1 0 0, Nat.zero_add, e]
  exact (Int32.add_zero _).symm
theorem KOK.asn (h : KOK x) : ∃ a, a < 100 ∧ x = nI a := by
  obtain ⟨h1, h2⟩ := h
  have e1 : (0 : Int) ≤ x.toInt := by
    have := Int32.le_iff_toInt_le.mp h1
    exact this
  have e2 : x.toInt < 100 := by
    have := Int32.lt_iff_toInt_lt.mp h2
    exact this
  refine ⟨x.toInt.toNat, by omega, ?_⟩
  apply Int32.toInt_inj.mp
  unfold nI
  rw [Int32.toInt_ofNat_of_lt (by omega)]
  omega
theorem nI_le_of {a b : Nat} (hb : a < 2 ^ 31) (h : nI a ≤ nI b) : a ≤ b := by
  rcases Nat.lt_or_ge b a with c | c
  · exact absurd h (nI_ge c hb)
  · exact c
theorem KOK.up (h : KOK x) (hk : k < 2 ^ 31) (h1 : nI k ≤ x) (h2 : x ≠ nI k) : nI (k + 1) ≤ x := by
  obtain ⟨a, ha, rfl⟩ := h.asn
  have e := nI_le_of hk h1
  have hne : a ≠ k := fun z => h2 (by rw [z])
  exact nI_le (by omega) (by omega)
/-- stands before -/
def bef (K J i j : Nat) : Prop := i < K ∨ (i = K ∧ j < J)
def EInv (p : Nat → Int32) (d k K J : Nat) : Prop := K ≤ nB p d 2 ∧ (K < nB p d 2 → J < nB p (nB p d (6 + K)) 2) ∧ (K = nB p d 2 → J = 0) ∧ ∀ i j, i < nB p d 2 → j < nB p (nB p d (6 + i)) 2 → (bef K J i j → gB p (nB p d (6 + i)) (6 + 2 * j) < nI k) ∧ (¬ bef K J i j → nI k ≤ gB p (nB p d (6 + i)) (6 + 2 * j))
theorem key_ord (hd : DirOK p d) (hs : DirS p d) (hK : K < nB p d 2) (hJ : J < nB p (nB p d (6 + K)) 2) (hi : i < nB p d 2) (hj : j < nB p (nB p d (6 + i)) 2) (hb : ¬ bef K J i j) (hne : ¬ (i = K ∧ j = J)) : gB p (nB p d (6 + K)) (6 + 2 * J) < gB p (nB p d (6 + i)) (6 + 2 * j) := by
  unfold bef at hb
  by_cases c : i = K
  · subst c
    exact (hd.2.2.2.2.2.1 i hi).2.2.2.2.2.2.2 J j (by omega) hj
  · exact hs.2 K i J j (by omega) hi hJ hj
theorem EInv.none (hd : DirOK p d) (hs : DirS p d) (h : EInv p d k K J) (hk : k < 100) (hne : K < nB p d 2 → gB p (nB p d (6 + K)) (6 + 2 * J) ≠ nI k) : (∀ i j, i < nB p d 2 → j < nB p (nB p d (6 + i)) 2 → gB p (nB p d (6 + i)) (6 + 2 * j) ≠ nI k) ∧ EInv p d (k + 1) K J := by
  have key : ∀ i j, i < nB p d 2 → j < nB p (nB p d (6 + i)) 2 → gB p (nB p d (6 + i)) (6 + 2 * j) ≠ nI k := fun i j hi hj => by
    obtain ⟨a1, a2⟩ := h.2.2.2 i j hi hj
    by_cases c : bef K J i j
    · exact Int32.ne_of_lt (a1 c)
    · have hK : K < nB p d 2 := by
        unfold bef at c
        omega
      by_cases c2 : i = K ∧ j = J
      · rw [c2.1, c2.2]
        exact hne hK
      · have o := key_ord hd hs hK (h.2.1 hK) hi hj c c2
        have b1 := (h.2.2.2 K J hK (h.2.1 hK)).2 (by unfold bef; omega)
        exact (Int32.ne_of_lt (Int32.lt_of_le_of_lt b1 o)).symm
  refine ⟨key, h.1, h.2.1, h.2.2.1, fun i j hi hj => ?_⟩
  obtain ⟨a1, a2⟩ := h.2.2.2 i j hi hj
  exact ⟨fun c => Int32.lt_of_lt_of_le (a1 c) (nI_le (by omega) (by omega)), fun c => (hs.1 i j hi hj).1.up (by omega) (a2 c) (key i j hi hj)⟩
theorem EInv.some (hd : DirOK p d) (hs : DirS p d) (h : EInv p d k K J) (hk : k < 100) (hK : K < nB p d 2) (he : gB p (nB p d (6 + K)) (6 + 2 * J) = nI k) : (J + 1 < nB p (nB p d (6 + K)) 2 → EInv p d (k + 1) K (J + 1)) ∧ (J + 1 = nB p (nB p d (6 + K)) 2 → EInv p d (k + 1) (K + 1) 0) := by
  have hJ := h.2.1 hK
  have nk : nI k < nI (k + 1) := nI_lt (by omega) (by omega)
  have next : ∀ K' J', (∀ i j, i < nB p d 2 → j < nB p (nB p d (6 + i)) 2 → (bef K' J' i j ↔ (bef K J i j ∨ (i = K ∧ j = J)))) → ∀ i j, i < nB p d 2 → j < nB p (nB p d (6 + i)) 2 → (bef K' J' i j → gB p (nB p d (6 + i)) (6 + 2 * j) < nI (k + 1)) ∧ (¬ bef K' J' i j → nI (k + 1) ≤ gB p (nB p d (6 + i)) (6 + 2 * j)) := fun K' J' hb i j hi hj => by
    obtain ⟨a1, a2⟩ := h.2.2.2 i j hi hj
    have e := hb i j hi hj
    refine ⟨fun c => ?_, fun c => ?_⟩
    · rcases e.mp c with c1 | ⟨c1, c2⟩
      · exact Int32.lt_trans (a1 c1) nk
      · rw [c1, c2, he]
        exact nk
    · have c1 : ¬ bef K J i j := fun z => c (e.mpr (Or.inl z))
      have c2 : ¬ (i = K ∧ j = J) := fun z => c (e.mpr (Or.inr z))
      have o := key_ord hd hs hK hJ hi hj c1 c2
      rw [he] at o
      exact (hs.1 i j hi hj).1.up (by omega) (Int32.le_of_lt o) (Int32.ne_of_lt o).symm
  refine ⟨fun hlt => ⟨h.1, fun _ => hlt, fun z => by omega, next K (J + 1) (fun i j hi hj => ?_)⟩, fun heq => ⟨by omega, fun z => by have := (hd.le4 z).1; omega, fun _ => rfl, next (K + 1) 0 (fun i j hi hj => ?_)⟩⟩
  · unfold bef
    omega
  · unfold bef
    constructor
    · intro z
      by_cases c : i = K
      · subst c
        omega
      · omega
    · omega
theorem ents_loop (h : J28 B μ p) : ∀ (m k fu K J : Nat), k + m = 100 → m < fu → EInv p (cd p) k K J → f_L_entries_b9 0 fu (nI (enf p (cd p) K 0 + J)) (vsm p (cd p) K J) (nI (if J = 0 then K else K + 1)) (nI k) μ = some 1 := by
  have hd := h.2.1.2.2.1.2.1
  have hs := h.2.2.1.2.2.1
  have h6 := hd.2.2.2.2.1
  have h24 := ens_lt hd
  intro m
  induction m with
  | zero =>
    intro k fu K J hk hf hE
    obtain ⟨fu, rfl⟩ : ∃ z, fu = z + 1 := ⟨fu - 1, by omega⟩
    have ek : k = 100 := by omega
    subst ek
    have eK : K = nB p (cd p) 2 := by
      rcases Nat.lt_or_ge K (nB p (cd p) 2) with c | c
      · have q1 := (hE.2.2.2 K J c (hE.2.1 c)).2 (by unfold bef; omega)
        have q2 := (hs.1 K J c (hE.2.1 c)).1.2
        exact absurd q1 (Int32.not_le.mpr q2)
      · have := hE.1
        omega
    have eJ := hE.2.2.1 eK
    subst eJ
    have es : vsm p (cd p) K 0 = dsum p (cd p) (nB p (cd p) 2) 0 := by
      rw [eK]
      exact Int32.add_zero _
    rw [f_L_entries_b9, if_pos (lI (c := 100) 100 100 rfl (by omega) (by omega)), wh5 h, Option.bind_some, if_pos (by rw [eK, Nat.add_zero, enf_ens]), wh13 h, Option.bind_some, es, if_pos rfl, wh6 h, Option.bind_some, hd.2.2.2.1, if_pos rfl, if_pos (by rw [eK])]
    rfl
  | succ m ih =>
    intro k fu K J hk hf hE
    obtain ⟨fu, rfl⟩ : ∃ z, fu = z + 1 := ⟨fu - 1, by omega⟩
    have hk100 : k < 100 := by omega
    rw [f_L_entries_b9, if_neg (nlI (c := 100) 100 k rfl hk100 (by omega)), get_e h hk100, Option.bind_some]
    by_cases cA : K < nB p (cd p) 2 ∧ gB p (nB p (cd p) (6 + K)) (6 + 2 * J) = nI k
    · obtain ⟨hK, he⟩ := cA
      have hJ := hE.2.1 hK
      have hsz := hd.le4 hK
      have hlt := enf_lt hK hJ
      obtain ⟨l1, l2⟩ := hd.2.2.2.2.2.1 K hK
      have lp0 := cd_pages h.2.1 (Or.inr ⟨K, hK, rfl⟩)
      have hl32 := l2.1
      have ev := vby_find hd hs hK hJ he
      have hv := (hs.1 K J hK hJ).2
      have hv1 : ¬ gB p (nB p (cd p) (6 + K)) (7 + 2 * J) = -1000 := fun z => by
        rw [z] at hv
        exact absurd hv.1 (by decide)
      obtain ⟨nx1, nx2⟩ := hE.some hd hs hk100 hK he
      have goal : f_L_entries_b215 0 (f_L_entries_b9 0 fu) (nI (enf p (cd p) K 0 + J) + 1) (vsm p (cd p) K J + gB p (nB p (cd p) (6 + K)) (7 + 2 * J)) (nI (K + 1)) (nI k) μ = some 1 := by
        unfold f_L_entries_b215
        rw [vsm_s, nI_1, nI_1]
        by_cases c : J + 1 < nB p (nB p (cd p) (6 + K)) 2
        · have q := ih (k + 1) fu K (J + 1) (by omega) (by omega) (nx1 c)
          rw [if_neg (Nat.succ_ne_zero J)] at q
          exact q
        · have eq : J + 1 = nB p (nB p (cd p) (6 + K)) 2 := by omega
          have q := ih (k + 1) fu (K + 1) 0 (by omega) (by omega) (nx2 eq)
          rw [if_pos rfl, Nat.add_zero, enf_r, ← eq, ← vsm_n eq] at q
          exact q
      have g170 : f_L_entries_b170 0 (f_L_entries_b9 0 fu) (nI (enf p (cd p) K 0 + J)) (vsm p (cd p) K J) (nI (K + 1)) (nI k) (gB p (nB p (cd p) (6 + K)) (7 + 2 * J)) (nI J) μ = some 1 := by
        unfold f_L_entries_b170 f_L_entries_b207
        by_cases c0 : J = 0
        · rw [if_pos (show nI J = 0 by rw [c0]; rfl)]
          by_cases c1 : nI (enf p (cd p) K 0 + J) ≤ 0
          · rw [if_pos c1]
            exact goal
          · have hK1 : 1 ≤ K := by
              rcases Nat.eq_zero_or_pos K with z | z
              · exfalso
                apply c1
                rw [z, c0]
                exact Int32.le_refl _
              · exact z
            obtain ⟨K', rfl⟩ : ∃ z, K = z + 1 := ⟨K - 1, by omega⟩
            have hK' : K' < nB p (cd p) 2 := by omega
            have hsz' := hd.le4 hK'
            have er : enf p (cd p) (K' + 1) 0 + J - 1 = enf p (cd p) K' 0 + (nB p (nB p (cd p) (6 + K')) 2 - 1) := by
              rw [enf_r]
              omega
            have er1 : nI (enf p (cd p) (K' + 1) 0 + J) - 1 = nI (enf p (cd p) (K' + 1) 0 + J - 1) := nI_sub (b := 1) (by rw [enf_r]; omega)
            have l2' := (hd.2.2.2.2.2.1 K' hK').2
            have lp1 := cd_pages h.2.1 (Or.inr ⟨K', hK', rfl⟩)
            rw [if_neg c1, er1, ent3 h hK' (by omega) er, Option.bind_some, ent2 h hK' (by omega) er, Option.bind_some, bed2 h l2'.1, Option.bind_some, if_neg (show ¬ gB p (nB p (cd p) (6 + K')) 0 = 0 by rw [lp1.1]; decide), nI_1, l2'.2.2.2.1, if_pos (by rw [show nB p (nB p (cd p) (6 + K')) 2 - 1 + 1 = nB p (nB p (cd p) (6 + K')) 2 by omega])]
            exact goal
        · rw [if_neg (nI_ne0 (by omega) (by omega))]
          exact goal
      have g59 : ∀ s0 s1 : Int32, s1 + s0 = nI (K + 1) → f_L_entries_b59 0 (f_L_entries_b9 0 fu) (nI (enf p (cd p) K 0 + J)) (vsm p (cd p) K J) (nI k) (gB p (nB p (cd p) (6 + K)) (7 + 2 * J)) (nI (nB p (cd p) (6 + K))) (nI J) s0 s1 μ = some 1 := fun s0 s1 hss => by
        unfold f_L_entries_b59
        rw [ent0 h hK hJ rfl, Option.bind_some, if_pos he, ent1 h hK hJ rfl, Option.bind_some, if_pos rfl, if_neg (nI_nz (by omega)), if_neg (nI_gt (c := 3) 3 rfl (by omega) (by decide)), bed2 h hl32, Option.bind_some, if_neg l2.2.1, l2.2.2.2.1, if_neg (nI_ge hJ (by omega)), bed0 h hl32, Option.bind_some, if_pos lp0.1, bed1 h hl32, Option.bind_some, if_neg l2.2.1, if_pos l2.2.2.1, bed5 h hl32, Option.bind_some, if_pos lp0.2, hss]
        by_cases c0 : J = 0
        · rw [if_pos (show nI J ≤ 0 by rw [c0]; exact Int32.le_refl _)]
          exact g170
        · have er : enf p (cd p) K 0 + J - 1 = enf p (cd p) K 0 + (J - 1) := by omega
          have er1 : nI (enf p (cd p) K 0 + J) - 1 = nI (enf p (cd p) K 0 + J - 1) := nI_sub (b := 1) (by omega)
          rw [if_neg (show ¬ nI J ≤ 0 by rw [← nI_0]; exact nI_ge (by omega) (by omega)), er1, ent2 h hK (by omega) er, Option.bind_some, if_pos rfl, ent3 h hK (by omega) er, Option.bind_some, nI_1, if_pos (by rw [show J - 1 + 1 = J by omega])]
          exact g170
      rw [ev, if_neg hv1, ent2 h hK hJ rfl, Option.bind_some, ent3 h hK hJ rfl, Option.bind_some]
      by_cases c0 : J = 0
      · rw [if_pos (show nI J = 0 by rw [c0]; rfl), if_pos c0]
        exact g59 1 (nI K) (nI_1 K)
      · rw [if_neg (nI_ne0 (by omega) (by omega)), if_neg c0]
        exact g59 0 (nI (K + 1)) (Int32.add_zero _)
    · obtain ⟨n1, n2⟩ := hE.none hd hs hk100 (fun hK z => cA ⟨hK, z⟩)
      rw [vby_none n1, if_pos rfl]
      unfold f_L_entries_b215
      rw [nI_1]
      exact ih (k + 1) fu K J (by omega) (by omega) n2
theorem entries_ok (h : J28 B μ p) : f_L_entries 0 μ = some 1 := by
  have hd := h.2.1.2.2.1.2.1
  have hs := h.2.2.1.2.2.1
  have hE : EInv p (cd p) 0 0 0 := by
    refine ⟨Nat.zero_le _, fun hK => by have := (hd.le4 hK).1; omega, fun _ => rfl, fun i j hi hj => ⟨fun c => ?_, fun _ => (hs.1 i j hi hj).1.1⟩⟩
    unfold bef at c
    omega
  exact ents_loop h 100 0 101 0 0 (by omega) (by omega) hE
end PZENT
