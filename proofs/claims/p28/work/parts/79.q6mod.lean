/-! PURE, the model's small writing steps -/
section PMODW
def wBn (p : Nat → Int32) (b n k : Nat) : Nat → Int32 := lp (fun j p => sB p b j 0) n k p
def wB (p : Nat → Int32) (b : Nat) : Nat → Int32 := wBn p b 14 0
def lvB (p : Nat → Int32) (b : Nat) : Nat → Int32 := if gB p b 4 = 1 then wB p b else sB p b 5 1
def cpn (p : Nat → Int32) (s t n k : Nat) : Nat → Int32 := lp (fun j p => sB p t j (gB p s j)) n k p
def cpB (p : Nat → Int32) (s t : Nat) : Nat → Int32 := sB (cpn p s t 8 6) t 2 (gB (cpn p s t 8 6) s 2)
def dgB (p : Nat → Int32) (b : Nat) (kind : Int32) : Nat → Int32 := sB (sB (sB (sB (sB (sB p b 0 1) b 1 kind) b 2 0) b 3 0) b 4 1) b 5 0
variable {q : Nat} {μ : Mem} {p : Nat → Int32} {b b' w w' k r v s t : Nat} {x kind : Int32}
theorem wBn_gB : ∀ (n k : Nat) (p : Nat → Int32), k + n ≤ 14 → w' < 14 → gB (wBn p b n k) b' w' = if b' = b ∧ k ≤ w' ∧ w' < k + n then 0 else gB p b' w'
  | 0, k, p, _, _ => (if_neg (by omega)).symm
  | n + 1, k, p, h, hw => by
    show gB (wBn (sB p b k 0) b n (k + 1)) b' w' = _
    rw [wBn_gB n (k + 1) _ (by omega) hw, gB_sB (by omega) hw]
    by_cases c : b' = b ∧ k ≤ w' ∧ w' < k + (n + 1)
    · rw [if_pos c]
      by_cases c2 : k = w'
      · rw [if_neg (by omega), if_pos ⟨c.1, c2.symm⟩]
      · rw [if_pos ⟨c.1, by omega, by omega⟩]
    · rw [if_neg c, if_neg (fun z => c ⟨z.1, by omega, by omega⟩), if_neg (fun z => c ⟨z.1, by omega, by omega⟩)]
theorem wB_gB (hw : w' < 14) : gB (wB p b) b' w' = if b' = b then 0 else gB p b' w' := by
  unfold wB
  rw [wBn_gB 14 0 p (by omega) hw]
  by_cases c : b' = b
  · rw [if_pos ⟨c, by omega, by omega⟩, if_pos c]
  · rw [if_neg (fun z => c z.1), if_neg c]
theorem wBn_same : ∀ (n k : Nat) (p : Nat → Int32), k + n ≤ 14 → b < 32 → Same p (wBn p b n k)
  | 0, _, _, _, _ => Same.rf
  | n + 1, k, p, h, hb => (Same.sB hb (by omega)).tr (wBn_same n (k + 1) _ (by omega) hb)
theorem wB_same (hb : b < 32) : Same p (wB p b) := wBn_same 14 0 p (by omega) hb
theorem lvB_same (hb : b < 32) : Same p (lvB p b) := by
  unfold lvB
  split
  · exact wB_same hb
  · exact Same.sB hb (by decide)
theorem lvB_1 (h : gB p b 4 = 1) : lvB p b = wB p b := if_pos h
theorem lvB_0 (h : ¬ gB p b 4 = 1) : lvB p b = sB p b 5 1 := if_neg h
theorem cpn_gB : ∀ (n k : Nat) (p : Nat → Int32), k + n ≤ 14 → w' < 14 → gB (cpn p s t n k) b' w' = if b' = t ∧ k ≤ w' ∧ w' < k + n then gB p s w' else gB p b' w'
  | 0, k, p, _, _ => (if_neg (by omega)).symm
  | n + 1, k, p, h, hw => by
    show gB (cpn (sB p t k (gB p s k)) s t n (k + 1)) b' w' = _
    rw [cpn_gB n (k + 1) _ (by omega) hw, gB_sB (by omega) hw, gB_sB (by omega) hw]
    by_cases c : b' = t ∧ k ≤ w' ∧ w' < k + (n + 1)
    · rw [if_pos c]
      by_cases c2 : k = w'
      · rw [if_neg (by omega), if_pos ⟨c.1, c2.symm⟩, c2]
      · rw [if_pos ⟨c.1, by omega, by omega⟩, if_neg (by omega)]
    · rw [if_neg c, if_neg (fun z => c ⟨z.1, by omega, by omega⟩), if_neg (fun z => c ⟨z.1, by omega, by omega⟩)]
theorem cpB_gB (hw : w' < 14) : gB (cpB p s t) b' w' = if b' = t ∧ (w' = 2 ∨ 6 ≤ w') then gB p s w' else gB p b' w' := by
  unfold cpB
  rw [gB_sB (by decide) hw, cpn_gB 8 6 p (by omega) (by decide), cpn_gB 8 6 p (by omega) hw, if_neg (show ¬ (s = t ∧ 6 ≤ 2 ∧ 2 < 6 + 8) by omega)]
  by_cases c : b' = t ∧ (w' = 2 ∨ 6 ≤ w')
  · rw [if_pos c]
    by_cases c2 : w' = 2
    · rw [if_pos ⟨c.1, c2⟩, c2]
    · rw [if_neg (fun z => c2 z.2), if_pos ⟨c.1, by omega, by omega⟩]
  · rw [if_neg c, if_neg (fun z => c ⟨z.1, Or.inl z.2⟩), if_neg (fun z => c ⟨z.1, Or.inr z.2.1⟩)]
theorem cpn_same : ∀ (n k : Nat) (p : Nat → Int32), k + n ≤ 14 → t < 32 → Same p (cpn p s t n k)
  | 0, _, _, _, _ => Same.rf
  | n + 1, k, p, h, hb => (Same.sB hb (by omega)).tr (cpn_same n (k + 1) _ (by omega) hb)
theorem cpB_same (hb : t < 32) : Same p (cpB p s t) := (cpn_same 8 6 p (by omega) hb).tr (Same.sB hb (by decide))
theorem dgB_same (hb : b < 32) : Same p (dgB p b kind) := (((((Same.sB hb (by decide)).tr (Same.sB hb (by decide))).tr (Same.sB hb (by decide))).tr (Same.sB hb (by decide))).tr (Same.sB hb (by decide))).tr (Same.sB hb (by decide))
theorem dgB_ne (h : b' ≠ b) (hw : w' < 14) : gB (dgB p b kind) b' w' = gB p b' w' := by
  unfold dgB
  rw [gB_sB (by decide) hw, if_neg (fun z => h z.1), gB_sB (by decide) hw, if_neg (fun z => h z.1), gB_sB (by decide) hw, if_neg (fun z => h z.1), gB_sB (by decide) hw, if_neg (fun z => h z.1), gB_sB (by decide) hw, if_neg (fun z => h z.1), gB_sB (by decide) hw, if_neg (fun z => h z.1)]
theorem dgB_hi (h : 6 ≤ w') (hw : w' < 14) : gB (dgB p b kind) b' w' = gB p b' w' := by
  unfold dgB
  rw [gB_sB (by decide) hw, if_neg (by omega), gB_sB (by decide) hw, if_neg (by omega), gB_sB (by decide) hw, if_neg (by omega), gB_sB (by decide) hw, if_neg (by omega), gB_sB (by decide) hw, if_neg (by omega), gB_sB (by decide) hw, if_neg (by omega)]
theorem dgB_eq : gB (dgB p b kind) b 0 = 1 ∧ gB (dgB p b kind) b 1 = kind ∧ gB (dgB p b kind) b 2 = 0 ∧ gB (dgB p b kind) b 3 = 0 ∧ gB (dgB p b kind) b 4 = 1 ∧ gB (dgB p b kind) b 5 = 0 := by
  unfold dgB
  simp [gB_sB]
theorem becomesWild_b2 : ∀ (n k fu : Nat) (p : Nat → Int32), k + n = 14 → n < fu → b < 32 → f_X7_becomesWild_b2 q fu (nI b) (nI k) (rst μ (q + 1) p) = some (rst μ (q + 1) (wBn p b n k)) := by
  intro n
  induction n with
  | zero =>
    intro k fu p hk hf hb
    obtain ⟨fu, rfl⟩ : ∃ z, fu = z + 1 := ⟨fu - 1, by omega⟩
    rw [f_X7_becomesWild_b2, if_pos (lI (c := 14) 14 k rfl (by omega) (by omega))]
    rfl
  | succ n ih =>
    intro k fu p hk hf hb
    obtain ⟨fu, rfl⟩ : ∃ z, fu = z + 1 := ⟨fu - 1, by omega⟩
    rw [f_X7_becomesWild_b2, if_neg (nlI (c := 14) 14 k rfl (by omega) (by omega)), lay_rr hb (by omega), Option.bind_some, nI_1, ih (k + 1) fu _ (by omega) (by omega) hb]
    rfl
theorem becomesWild_r (hb : b < 32) : f_X7_becomesWild q (nI b) (rst μ (q + 1) p) = some (rst μ (q + 1) (wB p b)) := by
  have h := becomesWild_b2 (q := q) (μ := μ) 14 0 FU p (by omega) (by decide) hb
  rw [nI_0] at h
  exact h
theorem leaves_r (hb : b < 32) : f_X7_leaves q (nI b) (rst μ (q + 1) p) = some (rst μ (q + 1) (lvB p b)) := by
  unfold f_X7_leaves f_X7_leaves_b25
  rw [of4 hb, rst_eq, Option.bind_some, becomesWild_r hb, Option.bind_some, lay_rc (y := 5) 5 rfl hb (by decide), Option.bind_some]
  unfold lvB
  split <;> rfl
theorem copies_b3 : ∀ (n k fu : Nat) (p : Nat → Int32), k + n = 14 → n < fu → s < 32 → t < 32 → f_X7_copies_b3 q fu (nI s) (nI t) (nI k) (rst μ (q + 1) p) = some (rst μ (q + 1) (sB (cpn p s t n k) t 2 (gB (cpn p s t n k) s 2))) := by
  intro n
  induction n with
  | zero =>
    intro k fu p hk hf hs ht
    obtain ⟨fu, rfl⟩ : ∃ z, fu = z + 1 := ⟨fu - 1, by omega⟩
    rw [f_X7_copies_b3, if_pos (lI (c := 14) 14 k rfl (by omega) (by omega)), of2 hs, rst_eq, Option.bind_some, lay_rc (y := 2) 2 rfl ht (by decide), Option.bind_some]
    rfl
  | succ n ih =>
    intro k fu p hk hf hs ht
    obtain ⟨fu, rfl⟩ : ∃ z, fu = z + 1 := ⟨fu - 1, by omega⟩
    rw [f_X7_copies_b3, if_neg (nlI (c := 14) 14 k rfl (by omega) (by omega)), of_n hs (by omega), rst_eq, Option.bind_some, lay_rr ht (by omega), Option.bind_some, nI_1, ih (k + 1) fu _ (by omega) (by omega) hs ht]
    rfl
theorem copies_r (hs : s < 32) (ht : t < 32) : f_X7_copies q (nI s) (nI t) (rst μ (q + 1) p) = some (rst μ (q + 1) (cpB p s t)) := by
  have h := copies_b3 (q := q) (μ := μ) 8 6 FU p (by omega) (by decide) hs ht
  exact h
theorem nxt_lt (h : nxt p = some b) : b < 32 := by
  unfold nxt at h
  cases e : lp (ostep p) 32 0 none with
  | some c =>
    rw [e] at h
    have h2 : some c = some b := h
    cases h2
    exact (ostep_lt b e).1
  | none =>
    rw [e] at h
    obtain ⟨-, h2, -, -⟩ := sr_some _ _ _ h
    omega
theorem nxt_ok (h : nxt p = some b) : dg p b = true ∨ wild p b = true := by
  unfold nxt at h
  cases e : lp (ostep p) 32 0 none with
  | some c =>
    rw [e] at h
    have h2 : some c = some b := h
    cases h2
    exact Or.inl (ostep_lt b e).2
  | none =>
    rw [e] at h
    obtain ⟨-, -, h3, -⟩ := sr_some _ _ _ h
    exact Or.inr h3
theorem dig_r (h : nxt p = some b) : f_X7_dig q kind (rst μ (q + 1) p) = some (nI b, rst μ (q + 1) (dgB p b kind)) := by
  have hb := nxt_lt h
  unfold f_X7_dig
  rw [nextNow_n, rst_eq, h, Option.bind_some, show oI (-1) (some b) = nI b from rfl, lay_rc (y := 0) 0 rfl hb (by decide), Option.bind_some, lay_rc (y := 1) 1 rfl hb (by decide), Option.bind_some, lay_rc (y := 2) 2 rfl hb (by decide), Option.bind_some, lay_rc (y := 3) 3 rfl hb (by decide), Option.bind_some, lay_rc (y := 4) 4 rfl hb (by decide), Option.bind_some, lay_rc (y := 5) 5 rfl hb (by decide), Option.bind_some]
  rfl
/-- something can be dug -/
theorem nxt_some (h : 0 < many p) : ∃ b, nxt p = some b := by
  unfold nxt
  cases e : lp (ostep p) 32 0 none with
  | some c => exact ⟨c, rfl⟩
  | none =>
    have hn : ∀ j, j < 32 → dg p j = false := by
      have hi := lp_inv (s := ostep p) (fun k o => o = none → ∀ j, j < k → dg p j = false) 32 0 none (fun _ j hj => absurd hj (Nat.not_lt_zero j)) (fun j h1 h2 o ho hb i hi => by
        by_cases c : dg p j = true
        · cases o with
          | none =>
            rw [ostep_none c] at hb
            cases hb
          | some g =>
            by_cases c2 : gB p j 3 < gB p g 3
            · rw [ostep_y c c2] at hb
              cases hb
            · rw [ostep_n c c2] at hb
              cases hb
        · rw [ostep_no (eq_false_of_ne_true c)] at hb
          by_cases ei : i = j
          · rw [ei]
            exact eq_false_of_ne_true c
          · exact ho hb i (by omega))
      intro j hj
      exact hi e j (by omega)
    obtain ⟨j, hj, hp⟩ := ct_pos 32 h
    rw [hn j hj, Bool.false_or] at hp
    show ∃ b, sr (wild p) 32 0 = some b
    cases e2 : sr (wild p) 32 0 with
    | some c => exact ⟨c, rfl⟩
    | none =>
      rw [sr_none 32 0 e2 j (by omega) (by omega)] at hp
      cases hp
end PMODW
