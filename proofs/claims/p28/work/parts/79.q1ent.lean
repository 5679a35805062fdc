/-! PURE, entries by rank, and sums -/
section PENT
/-- from leaf k on, n leaves: where the entry of rank r stands -/
def loc (p : Nat → Int32) (d : Nat) : Nat → Nat → Nat → Option (Nat × Nat)
  | 0, _, _ => none
  | n + 1, k, r => if r < nB p (nB p d (6 + k)) 2 then some (k, r) else loc p d n (k + 1) (r - nB p (nB p d (6 + k)) 2)
def enf (p : Nat → Int32) (d n k : Nat) : Nat := lp (fun k a => a + nB p (nB p d (6 + k)) 2) n k 0
def tev (p : Nat → Int32) (d : Nat) (w : Int32) (z : Nat × Nat) : Int32 := if w = 0 then gB p (nB p d (6 + z.1)) (6 + 2 * z.2) else if w = 1 then gB p (nB p d (6 + z.1)) (7 + 2 * z.2) else if w = 2 then nI (nB p d (6 + z.1)) else nI z.2
variable {q : Nat} {μ : Mem} {g : Nat} {p : Nat → Int32} {d : Nat} {w : Int32}
theorem lp_add {f : Nat → Nat} : ∀ (n k a : Nat), lp (fun k a => a + f k) n k a = a + lp (fun k a => a + f k) n k 0
  | 0, _, _ => rfl
  | n + 1, k, a => by
    show lp _ n (k + 1) (a + f k) = a + lp _ n (k + 1) (0 + f k)
    rw [lp_add n (k + 1) (a + f k), lp_add n (k + 1) (0 + f k)]
    omega
theorem lp_addI {f : Nat → Int32} : ∀ (n k : Nat) (a : Int32), lp (fun k a => a + f k) n k a = a + lp (fun k a => a + f k) n k 0
  | 0, _, a => (Int32.add_zero a).symm
  | n + 1, k, a => by
    show lp _ n (k + 1) (a + f k) = a + lp _ n (k + 1) (0 + f k)
    rw [lp_addI n (k + 1) (a + f k), lp_addI n (k + 1) (0 + f k), Int32.zero_add, Int32.add_assoc]
theorem enf_s {n k : Nat} : enf p d (n + 1) k = nB p (nB p d (6 + k)) 2 + enf p d n (k + 1) := by
  unfold enf
  show lp _ n (k + 1) (0 + nB p (nB p d (6 + k)) 2) = _
  rw [lp_add n (k + 1), Nat.zero_add]
theorem enf_ens : enf p d (nB p d 2) 0 = ens p d := rfl
theorem loc_some : ∀ (n k r : Nat), r < enf p d n k → ∃ z, loc p d n k r = some z ∧ k ≤ z.1 ∧ z.1 < k + n ∧ z.2 < nB p (nB p d (6 + z.1)) 2
  | 0, k, r, h => absurd h (Nat.not_lt_zero r)
  | n + 1, k, r, h => by
    by_cases c : r < nB p (nB p d (6 + k)) 2
    · exact ⟨(k, r), if_pos c, Nat.le_refl _, by show k < k + (n + 1); omega, c⟩
    · rw [enf_s] at h
      obtain ⟨z, h1, h2, h3, h4⟩ := loc_some n (k + 1) (r - nB p (nB p d (6 + k)) 2) (by omega)
      exact ⟨z, (if_neg c).trans h1, by omega, by omega, h4⟩
theorem loc_y {n k r : Nat} (h : r < nB p (nB p d (6 + k)) 2) : loc p d (n + 1) k r = some (k, r) := if_pos h
theorem loc_n {n k r : Nat} (h : ¬ r < nB p (nB p d (6 + k)) 2) : loc p d (n + 1) k r = loc p d n (k + 1) (r - nB p (nB p d (6 + k)) 2) := if_neg h
theorem nI_sub {a b : Nat} (h : b ≤ a) : nI a - nI b = nI (a - b) := by
  obtain ⟨c, rfl⟩ : ∃ c, a = c + b := ⟨a - b, by omega⟩
  rw [← nI_add, Nat.add_sub_cancel]
  exact Int32.add_sub_cancel _ _
theorem now_n (h : nowp (μ (q + 1)) = nI d) : f_X7_now q μ = some (nI d) := by
  unfold f_X7_now
  rw [current_n, Option.bind_some, ofRoot_c (x := 1) 1 rfl cur_lt (by decide), Option.bind_some]
  exact congrArg some h
theorem tellEntry_b5 (hn : nowp (μ (q + 1)) = nI d) (hd : DirOK (μ (q + 1)) d) : ∀ (n k r fu : Nat), k + n = nB (μ (q + 1)) d 2 → n < fu → ∀ z, loc (μ (q + 1)) d n k r = some z → r < 2 ^ 31 → f_X7_tellEntry_b5 q fu w (nI r) (nI k) μ = some (tev (μ (q + 1)) d w z) := by
  have h6 := hd.2.2.2.2.1
  intro n
  induction n with
  | zero =>
    intro k r fu hk hf z hz
    cases hz
  | succ n ih =>
    intro k r fu hk hf z hz hr
    obtain ⟨fu, rfl⟩ : ∃ z, fu = z + 1 := ⟨fu - 1, by omega⟩
    obtain ⟨l1, l2⟩ := hd.2.2.2.2.2.1 k (by omega)
    have h4 := l2.2.2.2.2.2.1
    rw [f_X7_tellEntry_b5, now_n hn, Option.bind_some, leafAtM_n hd.1 (by omega), Option.bind_some, l1, of2 l2.1, Option.bind_some, l2.2.2.2.1]
    by_cases c : r < nB (μ (q + 1)) (nB (μ (q + 1)) d (6 + k)) 2
    · rw [loc_y c] at hz
      cases hz
      rw [if_pos (nI_lt c (by omega)), Option.bind_some, leafAtM_n hd.1 (by omega), Option.bind_some, l1]
      unfold f_X7_tellEntry_b100 tev
      rw [keyAtM_n l2.1 (by omega), valueAtM_n l2.1 (by omega), Option.bind_some, Option.bind_some]
      by_cases c0 : w = 0
      · rw [if_pos c0, if_pos c0]
      · by_cases c1 : w = 1
        · rw [if_neg c0, if_neg c0, if_pos c1, if_pos c1]
        · by_cases c2 : w = 2
          · rw [if_neg c0, if_neg c0, if_neg c1, if_neg c1, if_pos c2, if_pos c2]
          · rw [if_neg c0, if_neg c0, if_neg c1, if_neg c1, if_neg c2, if_neg c2]
    · rw [loc_n c] at hz
      rw [if_neg (nI_nlt (by omega) hr), Option.bind_some, leafAtM_n hd.1 (by omega), Option.bind_some, l1, of2 l2.1, Option.bind_some, l2.2.2.2.1, nI_sub (by omega), nI_1]
      exact ih (k + 1) _ fu (by omega) (by omega) z hz (by omega)
theorem ens_lt (hd : DirOK p d) : ens p d ≤ 24 := by
  have h6 := hd.2.2.2.2.1
  have h := lp_inv (s := fun k a => a + nB p (nB p d (6 + k)) 2) (fun k a => a ≤ 4 * k) (nB p d 2) 0 0 (by omega) (fun j h1 h2 a ha => by
    have h4 := (hd.2.2.2.2.2.1 j (by omega)).2.2.2.2.2.2.1
    show a + nB p (nB p d (6 + j)) 2 ≤ 4 * (j + 1)
    omega)
  have h' : ens p d ≤ 4 * (0 + nB p d 2) := h
  omega
theorem tellEntry_n (hn : nowp (μ (q + 1)) = nI d) (hd : DirOK (μ (q + 1)) d) {r : Nat} {z : Nat × Nat} (hr : r < 2 ^ 31) (hz : loc (μ (q + 1)) d (nB (μ (q + 1)) d 2) 0 r = some z) : f_X7_tellEntry q (nI r) w μ = some (tev (μ (q + 1)) d w z) := by
  have h6 := hd.2.2.2.2.1
  have h := tellEntry_b5 (w := w) hn hd (nB (μ (q + 1)) d 2) 0 r FU (by omega) (by unfold FU; omega) z hz hr
  rw [nI_0] at h
  exact h
theorem RB.entryPartIn_b13 (h : RB q μ p) (hd : DirOK p d) (hw : w = 0 ∨ w = 1 ∨ w = 2 ∨ w = 3) : ∀ (n k r fu : Nat), k + n = nB p d 2 → n < fu → ∀ z, loc p d n k r = some z → r < 2 ^ 31 → f_X1_entryPartIn_b13 q fu (nI d) w (nI r) (nI (nB p d 2)) (nI k) μ = some (tev p d w z) := by
  have h6 := hd.2.2.2.2.1
  intro n
  induction n with
  | zero =>
    intro k r fu hk hf z hz
    cases hz
  | succ n ih =>
    intro k r fu hk hf z hz hr
    obtain ⟨fu, rfl⟩ : ∃ z, fu = z + 1 := ⟨fu - 1, by omega⟩
    obtain ⟨l1, l2⟩ := hd.2.2.2.2.2.1 k (by omega)
    have h4 := l2.2.2.2.2.2.1
    rw [f_X1_entryPartIn_b13, if_neg (nI_ge (by omega) (by omega)), h.leaf hd (by omega), Option.bind_some, h.size l2.1 l2.2.1, Option.bind_some, l2.2.2.2.1]
    by_cases c : r < nB p (nB p d (6 + k)) 2
    · rw [loc_y c] at hz
      cases hz
      rw [if_neg (nI_ge c (by omega))]
      unfold f_X1_leafPart tev
      rw [h.keyOf l2 c, h.val l2 c]
      rcases hw with rfl | rfl | rfl | rfl <;> rfl
    · rw [loc_n c] at hz
      rw [if_pos (nI_le (by omega) hr), Option.bind_some, nI_sub (by omega), nI_1]
      exact ih (k + 1) _ fu (by omega) (by omega) z hz (by omega)
theorem RB.entryPartIn (h : RB q μ p) (hd : DirOK p d) (hw : w = 0 ∨ w = 1 ∨ w = 2 ∨ w = 3) {r : Nat} {z : Nat × Nat} (hr : r < 2 ^ 31) (hz : loc p d (nB p d 2) 0 r = some z) : f_X1_entryPartIn q (nI d) (nI r) w μ = some (tev p d w z) := by
  have h6 := hd.2.2.2.2.1
  unfold f_X1_entryPartIn
  rw [h.size hd.1 hd.2.1, Option.bind_some, hd.2.2.2.1]
  have q1 := h.entryPartIn_b13 hd hw (nB p d 2) 0 r FU (by omega) (by unfold FU; omega) z hz hr
  rw [nI_0] at q1
  exact q1
-- sums
def lsum (p : Nat → Int32) (l : Nat) : Int32 := lp (fun i (a : Int32) => a + gB p l (7 + 2 * i)) (nB p l 2) 0 0
def dsum (p : Nat → Int32) (d n k : Nat) : Int32 := lp (fun k (a : Int32) => a + lsum p (nB p d (6 + k))) n k 0
def rsum (p : Nat → Int32) (d n k m r : Nat) : Int32 := lp (fun x (a : Int32) => a + (match loc p d n k x with | none => 0 | some z => tev p d 1 z)) m r 0
theorem RB.sumOfLeaf_b11 (h : RB q μ p) {l : Nat} (hl : LeafOK p l) : ∀ (n k fu : Nat) (a : Int32), k + n = nB p l 2 → n < fu → f_X1_sumOfLeaf_b11 q fu (nI l) a (nI (nB p l 2)) (nI k) μ = some (lp (fun i (a : Int32) => a + gB p l (7 + 2 * i)) n k a) := by
  have h4 := hl.2.2.2.2.2.1
  intro n
  induction n with
  | zero =>
    intro k fu a hk hf
    obtain ⟨fu, rfl⟩ : ∃ z, fu = z + 1 := ⟨fu - 1, by omega⟩
    rw [f_X1_sumOfLeaf_b11, if_pos (nI_le (by omega) (by omega))]
    rfl
  | succ n ih =>
    intro k fu a hk hf
    obtain ⟨fu, rfl⟩ : ∃ z, fu = z + 1 := ⟨fu - 1, by omega⟩
    rw [f_X1_sumOfLeaf_b11, if_neg (nI_ge (by omega) (by omega)), h.val hl (by omega), Option.bind_some, nI_1]
    exact ih (k + 1) fu _ (by omega) (by omega)
theorem RB.sumOfLeaf (h : RB q μ p) {l : Nat} (hl : LeafOK p l) : f_X1_sumOfLeaf q (nI l) μ = some (lsum p l) := by
  have h4 := hl.2.2.2.2.2.1
  unfold f_X1_sumOfLeaf
  rw [h.size hl.1 hl.2.1, Option.bind_some, hl.2.2.2.1]
  have q1 := h.sumOfLeaf_b11 hl (nB p l 2) 0 FU 0 (by omega) (by unfold FU; omega)
  rw [nI_0] at q1
  exact q1
theorem RB.sumIn_b11 (h : RB q μ p) (hd : DirOK p d) : ∀ (n k fu : Nat) (a : Int32), k + n = nB p d 2 → n < fu → f_X1_sumIn_b11 q fu (nI d) a (nI (nB p d 2)) (nI k) μ = some (lp (fun k (a : Int32) => a + lsum p (nB p d (6 + k))) n k a) := by
  have h6 := hd.2.2.2.2.1
  intro n
  induction n with
  | zero =>
    intro k fu a hk hf
    obtain ⟨fu, rfl⟩ : ∃ z, fu = z + 1 := ⟨fu - 1, by omega⟩
    rw [f_X1_sumIn_b11, if_pos (nI_le (by omega) (by omega))]
    rfl
  | succ n ih =>
    intro k fu a hk hf
    obtain ⟨fu, rfl⟩ : ∃ z, fu = z + 1 := ⟨fu - 1, by omega⟩
    obtain ⟨l1, l2⟩ := hd.2.2.2.2.2.1 k (by omega)
    rw [f_X1_sumIn_b11, if_neg (nI_ge (by omega) (by omega)), h.leaf hd (by omega), Option.bind_some, h.sumOfLeaf l2, Option.bind_some, nI_1]
    exact ih (k + 1) fu _ (by omega) (by omega)
theorem RB.sumIn (h : RB q μ p) (hd : DirOK p d) : f_X1_sumIn q (nI d) μ = some (dsum p d (nB p d 2) 0) := by
  have h6 := hd.2.2.2.2.1
  unfold f_X1_sumIn
  rw [h.size hd.1 hd.2.1, Option.bind_some, hd.2.2.2.1]
  have q1 := h.sumIn_b11 hd (nB p d 2) 0 FU 0 (by omega) (by unfold FU; omega)
  rw [nI_0] at q1
  exact q1
theorem lp_split {α : Type} {s : Nat → α → α} : ∀ (n m k : Nat) (a : α), lp s (n + m) k a = lp s m (k + n) (lp s n k a)
  | 0, m, k, a => by rw [Nat.zero_add]; rfl
  | n + 1, m, k, a => by
    rw [show n + 1 + m = (n + m) + 1 by omega]
    show lp s (n + m) (k + 1) (s k a) = lp s m (k + (n + 1)) (lp s n (k + 1) (s k a))
    rw [lp_split n m (k + 1) (s k a), show k + 1 + n = k + (n + 1) by omega]
theorem lp_shift {α : Type} {s t : Nat → α → α} (c : Nat) : ∀ (n k : Nat) (a : α), (∀ j, k ≤ j → j < k + n → ∀ a, s (j + c) a = t j a) → lp s n (k + c) a = lp t n k a
  | 0, _, _, _ => rfl
  | n + 1, k, a, h => by
    show lp s n (k + c + 1) (s (k + c) a) = lp t n (k + 1) (t k a)
    rw [h k (Nat.le_refl _) (by omega), show k + c + 1 = k + 1 + c by omega]
    exact lp_shift c n (k + 1) _ (fun j h1 h2 => h j (by omega) (by omega))
theorem rsum_dsum : ∀ (n k : Nat), rsum p d n k (enf p d n k) 0 = dsum p d n k
  | 0, k => rfl
  | n + 1, k => by
    have e1 : dsum p d (n + 1) k = lsum p (nB p d (6 + k)) + dsum p d n (k + 1) := by
      unfold dsum
      show lp _ n (k + 1) (0 + lsum p (nB p d (6 + k))) = _
      rw [lp_addI n (k + 1), Int32.zero_add]
    rw [e1, ← rsum_dsum n (k + 1), enf_s]
    unfold rsum
    rw [lp_split, lp_addI, Nat.zero_add]
    congr 1
    · unfold lsum
      exact lp_cg _ _ _ (fun j h1 h2 a => by
        rw [loc_y (show j < nB p (nB p d (6 + k)) 2 by omega)]
        rfl)
    · have q1 := lp_shift (s := fun x (a : Int32) => a + (match loc p d (n + 1) k x with | none => 0 | some z => tev p d 1 z)) (t := fun x (a : Int32) => a + (match loc p d n (k + 1) x with | none => 0 | some z => tev p d 1 z)) (nB p (nB p d (6 + k)) 2) (enf p d n (k + 1)) 0 0 (fun j h1 h2 a => by
        rw [loc_n (show ¬ j + nB p (nB p d (6 + k)) 2 < nB p (nB p d (6 + k)) 2 by omega), Nat.add_sub_cancel])
      rw [Nat.zero_add] at q1
      exact q1
theorem sumOfValues_b4 (hn : nowp (μ (q + 1)) = nI d) (hd : DirOK (μ (q + 1)) d) : ∀ (n r fu : Nat) (a : Int32), r + n = ens (μ (q + 1)) d → n < fu → f_X7_sumOfValues_b4 q fu a (nI r) μ = some (lp (fun x (a : Int32) => a + (match loc (μ (q + 1)) d (nB (μ (q + 1)) d 2) 0 x with | none => 0 | some z => tev (μ (q + 1)) d 1 z)) n r a) := by
  have h24 := ens_lt hd
  intro n
  induction n with
  | zero =>
    intro r fu a hk hf
    obtain ⟨fu, rfl⟩ : ∃ z, fu = z + 1 := ⟨fu - 1, by omega⟩
    rw [f_X7_sumOfValues_b4, now_n hn, Option.bind_some, entriesBy_n hd, Option.bind_some, if_pos (nI_le (by omega) (by omega))]
    rfl
  | succ n ih =>
    intro r fu a hk hf
    obtain ⟨fu, rfl⟩ : ∃ z, fu = z + 1 := ⟨fu - 1, by omega⟩
    obtain ⟨z, hz, -⟩ := loc_some (p := μ (q + 1)) (d := d) (nB (μ (q + 1)) d 2) 0 r (by rw [enf_ens]; omega)
    rw [f_X7_sumOfValues_b4, now_n hn, Option.bind_some, entriesBy_n hd, Option.bind_some, if_neg (nI_ge (by omega) (by omega)), tellEntry_n hn hd (by omega) hz, Option.bind_some, nI_1, ih (r + 1) fu _ (by omega) (by omega)]
    congr 1
    show _ = lp _ n (r + 1) (a + (match loc (μ (q + 1)) d (nB (μ (q + 1)) d 2) 0 r with | none => 0 | some z => tev (μ (q + 1)) d 1 z))
    rw [hz]
theorem sumOfValues_n (hn : nowp (μ (q + 1)) = nI d) (hd : DirOK (μ (q + 1)) d) : f_X7_sumOfValues q μ = some (dsum (μ (q + 1)) d (nB (μ (q + 1)) d 2) 0) := by
  have h24 := ens_lt hd
  have h := sumOfValues_b4 hn hd (ens (μ (q + 1)) d) 0 FU 0 (by omega) (by unfold FU; omega)
  rw [nI_0] at h
  unfold f_X7_sumOfValues
  rw [h, ← rsum_dsum, enf_ens]
  rfl
end PENT
