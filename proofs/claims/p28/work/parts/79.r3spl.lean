/-! PURE, a leaf split: the class's last step, and the model's row of five -/
section PSPL2
variable {q : Nat} {μ : Mem} {p : Nat → Int32} {l b n s k d pl : Nat} {key val : Int32}
def mvR (q l b k : Nat) (μ : Mem) : Mem := mst (mst μ (q + 7) (5 * b + k) (μ (q + 7) (5 * l + (3 + k)))) (q + 8) (5 * b + k) (μ (q + 8) (5 * l + (3 + k)))
theorem splitLeaf5 (hl : l < 32) (hb : b < 32) (h5 : μ (q + 3) l = nI 5) : f_X1_splitLeaf q (nI l) (nI b) μ = some (mst (mst (mvR q l b 1 (mvR q l b 0 μ)) (q + 3) l (nI 3)) (q + 3) b (nI 2)) := by
  unfold f_X1_splitLeaf
  rw [sizeOf_n hl, h5, Option.bind_some, show nI 5 - 2 = nI 3 from rfl, show (0 : Int32) = nI 0 from rfl, show FU = 4093 + 1 + 1 + 1 from rfl, f_X1_splitLeaf_b11, if_neg (nlI (c := 2) 2 0 rfl (by omega) (by omega)), nI_add, moveEntry_n hl (by omega) hb (by omega), Option.bind_some, nI_1, f_X1_splitLeaf_b11, if_neg (nlI (c := 2) 2 (0 + 1) rfl (by omega) (by omega)), nI_add, moveEntry_n hl (by omega) hb (by omega), Option.bind_some, nI_1, f_X1_splitLeaf_b11, if_pos (lI (c := 2) 2 (0 + 1 + 1) rfl (by omega) (by omega)), setCell_n hl (by decide), Option.bind_some, show (2 : Int32) = nI 2 from rfl, setCell_n hb (by decide), Option.bind_some]
  rfl
/-- the place of a new key among four sorted ones -/
def spos (p : Nat → Int32) (l : Nat) (key : Int32) : Nat := ct (fun j => decide (gB p l (6 + 2 * j) < key)) 4
def spK (p : Nat → Int32) (l s : Nat) (key : Int32) (j : Nat) : Int32 := if j = s then key else if j < s then gB p l (6 + 2 * j) else gB p l (6 + 2 * (j - 1))
def spV (p : Nat → Int32) (l s : Nat) (val : Int32) (j : Nat) : Int32 := if j = s then val else if j < s then gB p l (7 + 2 * j) else gB p l (7 + 2 * (j - 1))
theorem spos_le : spos p l key ≤ 4 := ct_le 4
theorem splits_b6 (hl : l < 32) {x1 x2 : Int32} : ∀ (n k fu : Nat) (a : Int32), k + n = 4 → n < fu → f_X7_splits_b6 q fu x1 x2 (nI l) key val a (nI k) μ = f_X7_splits_b43 q FU x1 x2 (nI l) key val (lp (fun j (x : Int32) => x + (if decide (gB (μ (q + 1)) l (6 + 2 * j) < key) then 1 else 0)) n k a) 0 μ := by
  intro n
  induction n with
  | zero =>
    intro k fu a hk hf
    obtain ⟨fu, rfl⟩ : ∃ z, fu = z + 1 := ⟨fu - 1, by omega⟩
    rw [f_X7_splits_b6, if_pos (lI (c := 4) 4 k rfl (by omega) (by omega))]
    rfl
  | succ n ih =>
    intro k fu a hk hf
    obtain ⟨fu, rfl⟩ : ∃ z, fu = z + 1 := ⟨fu - 1, by omega⟩
    rw [f_X7_splits_b6, if_neg (nlI (c := 4) 4 k rfl (by omega) (by omega)), keyAtM_n hl (by omega), Option.bind_some]
    unfold f_X7_splits_b31
    rw [nI_1, ih (k + 1) fu _ (by omega) (by omega), ih (k + 1) fu _ (by omega) (by omega)]
    show _ = f_X7_splits_b43 q FU x1 x2 (nI l) key val (lp _ n (k + 1) (a + (if decide (gB (μ (q + 1)) l (6 + 2 * k) < key) then 1 else 0))) 0 μ
    by_cases c : key ≤ gB (μ (q + 1)) l (6 + 2 * k)
    · rw [if_pos c, if_neg (fun z => Int32.not_le.mpr (of_decide_eq_true z) c)]
    · rw [if_neg c, if_pos (decide_eq_true (Int32.not_le.mp c))]
/-- five entries laid into the row -/
def rowR (p : Nat → Int32) (l s : Nat) (key val : Int32) : Nat → Nat → (Nat → Int32) → (Nat → Int32)
  | 0, _, f => f
  | n + 1, k, f => rowR p l s key val n (k + 1) (upd (upd f (2 * k) (spK p l s key k)) (2 * k + 1) (spV p l s val k))
theorem rowR_lo : ∀ (n k : Nat) (f : Nat → Int32) (i : Nat), i < 2 * k → rowR p l s key val n k f i = f i
  | 0, _, _, _, _ => rfl
  | n + 1, k, f, i, h => by
    show rowR p l s key val n (k + 1) _ i = f i
    rw [rowR_lo n (k + 1) _ i (by omega), upd_ne (by omega), upd_ne (by omega)]
theorem rowR_eq : ∀ (n k : Nat) (f : Nat → Int32) (j : Nat), k ≤ j → j < k + n → rowR p l s key val n k f (2 * j) = spK p l s key j ∧ rowR p l s key val n k f (2 * j + 1) = spV p l s val j
  | 0, _, _, _, h1, h2 => absurd h2 (by omega)
  | n + 1, k, f, j, h1, h2 => by
    show rowR p l s key val n (k + 1) _ (2 * j) = _ ∧ rowR p l s key val n (k + 1) _ (2 * j + 1) = _
    by_cases c : j = k
    · rw [rowR_lo n (k + 1) _ _ (by omega), rowR_lo n (k + 1) _ _ (by omega), c, upd_ne (by omega), upd_eq, upd_eq]
      exact ⟨rfl, rfl⟩
    · exact rowR_eq n (k + 1) _ j (by omega) (by omega)
theorem splits_b43 (hl : l < 32) (hs : s ≤ 4) {x1 x2 : Int32} : ∀ (n k fu : Nat) (f : Nat → Int32), k + n = 5 → n < fu → f_X7_splits_b43 q fu x1 x2 (nI l) key val (nI s) (nI k) (rst (rst μ (q + 5) f) (q + 1) p) = bn2 (f_X7_dig q 0 (rst (rst μ (q + 5) (rowR p l s key val n k f)) (q + 1) p)) (fun v1 μ2 => f_X7_splits_b141 q FU x1 x2 (nI l) v1 0 μ2) := by
  intro n
  induction n with
  | zero =>
    intro k fu f hk hf
    obtain ⟨fu, rfl⟩ : ∃ z, fu = z + 1 := ⟨fu - 1, by omega⟩
    rw [f_X7_splits_b43, if_pos (lI (c := 5) 5 k rfl (by omega) (by omega))]
    rfl
  | succ n ih =>
    intro k fu f hk hf
    obtain ⟨fu, rfl⟩ : ∃ z, fu = z + 1 := ⟨fu - 1, by omega⟩
    have e2 : (2 : Int32) * nI k = nI (2 * k) := by rw [show (2 : Int32) = nI 2 from rfl, nI_mul]
    have row5 : ∀ h : Nat → Int32, rst (rst μ (q + 5) h) (q + 1) p (q + 5) = h := fun h => by rw [rst_ne (by omega), rst_eq]
    have w5 : ∀ (h : Nat → Int32) (j : Nat) (x : Int32), j < 10 → wr (rst (rst μ (q + 5) h) (q + 1) p) (q + 5) 10 (nI j) x = some (rst (rst μ (q + 5) (upd h j x)) (q + 1) p) := fun h j x hj => by
      rw [wr_n hj (by decide), mst_rst, row5, rst_comm (a := q + 1) (b := q + 5) (by omega), rst_rst, rst_comm (a := q + 5) (b := q + 1) (by omega)]
    rw [f_X7_splits_b43, if_neg (nlI (c := 5) 5 k rfl (by omega) (by omega))]
    unfold f_X7_splits_b65 f_X7_splits_b94 f_X7_splits_b124
    have er : ∀ K V, spK p l s key k = K → spV p l s val k = V → rowR p l s key val (n + 1) k f = rowR p l s key val n (k + 1) (upd (upd f (2 * k) K) (2 * k + 1) V) := fun K V h1 h2 => by
      rw [← h1, ← h2]
      rfl
    rcases Nat.lt_trichotomy k s with c | c | c
    · have ne : ¬ nI k = nI s := fun z => absurd (nI_inj (by omega) (by omega) z) (by omega)
      rw [if_neg (nI_ge c (by omega)), if_neg ne, keyAtM_n hl (by omega), rst_eq, Option.bind_some, e2, w5 _ _ _ (by omega), Option.bind_some, if_neg ne, valueAtM_n hl (by omega), rst_eq, Option.bind_some, nI_1, w5 _ _ _ (by omega), Option.bind_some, nI_1, ih (k + 1) fu _ (by omega) (by omega), er (gB p l (6 + 2 * k)) (gB p l (7 + 2 * k)) (by unfold spK; rw [if_neg (by omega), if_pos c]) (by unfold spV; rw [if_neg (by omega), if_pos c])]
    · subst c
      rw [if_pos (nI_le (a := k) (b := k) (Nat.le_refl _) (by omega)), if_pos rfl, e2, w5 _ _ _ (by omega), Option.bind_some, if_pos rfl, nI_1, w5 _ _ _ (by omega), Option.bind_some, nI_1, ih (k + 1) fu _ (by omega) (by omega), er key val (by unfold spK; rw [if_pos rfl]) (by unfold spV; rw [if_pos rfl])]
    · have ne : ¬ nI k = nI s := fun z => absurd (nI_inj (by omega) (by omega) z) (by omega)
      rw [if_pos (nI_le (by omega) (by omega)), if_neg ne, n_pred (by omega), keyAtM_n hl (by omega), rst_eq, Option.bind_some, e2, w5 _ _ _ (by omega), Option.bind_some, if_neg ne, valueAtM_n hl (by omega), rst_eq, Option.bind_some, nI_1, w5 _ _ _ (by omega), Option.bind_some, nI_1, ih (k + 1) fu _ (by omega) (by omega), er (gB p l (6 + 2 * (k - 1))) (gB p l (7 + 2 * (k - 1))) (by unfold spK; rw [if_neg (by omega), if_neg (by omega)]) (by unfold spV; rw [if_neg (by omega), if_neg (by omega)])]
end PSPL2
