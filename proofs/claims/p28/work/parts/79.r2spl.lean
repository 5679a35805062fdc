/-! PURE, the class's rows when a fifth entry is put into a leaf, and when the leaf is split -/
section PSPL
variable {q : Nat} {μ : Mem} {p : Nat → Int32} {l n s k : Nat} {key val : Int32}
/-- a row of five places from z on, with x put in at place s and what stands behind moved on, up to place n -/
def insR (f : Nat → Int32) (z s n : Nat) (x : Int32) : Nat → Int32 := fun i => if z + s < i ∧ i ≤ z + n then f (i - 1) else if i = z + s then x else f i
theorem insR_step {f : Nat → Int32} {z s n : Nat} {x : Int32} (h : s < n) : insR (upd f (z + n) (f (z + (n - 1)))) z s (n - 1) x = insR f z s n x := by
  funext i
  unfold insR
  by_cases c : i = z + n
  · rw [if_neg (by omega), if_neg (by omega), if_pos (by omega), c, upd_eq]
    congr 1
    omega
  · by_cases c2 : z + s < i ∧ i ≤ z + (n - 1)
    · rw [if_pos c2, if_pos ⟨c2.1, by omega⟩, upd_ne (by omega)]
    · rw [if_neg c2, if_neg (show ¬ (z + s < i ∧ i ≤ z + n) by omega)]
      by_cases c3 : i = z + s
      · rw [if_pos c3, if_pos c3]
      · rw [if_neg c3, if_neg c3, upd_ne c]
theorem insR_0 {f : Nat → Int32} {z s : Nat} {x : Int32} : insR f z s s x = upd f (z + s) x := by
  funext i
  unfold insR upd
  rw [if_neg (by omega)]
/-- memory with two rows replaced -/
def rw2 (μ : Mem) (a : Nat) (f : Nat → Int32) (b : Nat) (h : Nat → Int32) : Mem := rst (rst μ a f) b h
theorem mst2_rst {a b j : Nat} {x y : Int32} (hab : b ≠ a) : mst (mst μ a j x) b j y = rst (rst μ a (upd (μ a) j x)) b (upd (μ b) j y) := by
  rw [mst_rst (k := b), mst_rst (k := a), rst_ne hab]
theorem rst_comm {a b : Nat} {f h : Nat → Int32} (hab : b ≠ a) : rst (rst μ a f) b h = rst (rst μ b h) a f := by
  funext j
  unfold rst
  by_cases c : j = b
  · rw [if_pos c, if_neg (by omega), if_pos c]
  · rw [if_neg c, if_neg c]
theorem insertEntry5 (hl : l < 32) (hs : ∀ j, j < s → μ (q + 7) (5 * l + j) ≤ key) (N : Nat) : ∀ (m fu : Nat) (μ' : Mem), m < fu → s + m ≤ 4 → (∀ j, j < s + m → μ' (q + 7) (5 * l + j) = μ (q + 7) (5 * l + j)) → (∀ j, s ≤ j → j < s + m → ¬ μ (q + 7) (5 * l + j) ≤ key) → f_X1_insertEntry_b11 q fu (nI l) key val (nI N) (nI (s + m)) μ' = some (mst (rst (rst μ' (q + 7) (insR (μ' (q + 7)) (5 * l) s (s + m) key)) (q + 8) (insR (μ' (q + 8)) (5 * l) s (s + m) val)) (q + 3) l (nI (N + 1))) := by
  intro m
  induction m with
  | zero =>
    intro fu μ' hf h4 hr hb
    obtain ⟨fu, rfl⟩ : ∃ z, fu = z + 1 := ⟨fu - 1, by omega⟩
    have fin : f_X1_insertEntry_b47 q (nI l) key val (nI N) (nI s) μ' = some (mst (rst (rst μ' (q + 7) (insR (μ' (q + 7)) (5 * l) s s key)) (q + 8) (insR (μ' (q + 8)) (5 * l) s s val)) (q + 3) l (nI (N + 1))) := by
      unfold f_X1_insertEntry_b47
      rw [setEntryC_n hl (by omega), Option.bind_some, nI_1, setCell_n hl (by decide), Option.bind_some, mst2_rst (by omega), insR_0, insR_0]
    have e0 : nI (s + 0) = nI s := rfl
    rw [e0, f_X1_insertEntry_b11]
    by_cases c : s = 0
    · rw [if_pos (show nI s ≤ 0 by rw [c]; decide)]
      exact fin
    · rw [if_neg (nI_nle (by omega) (by omega)), n_pred (by omega), keyAt_n hl (by omega), Option.bind_some, hr (s - 1) (by omega), if_pos (hs (s - 1) (by omega))]
      exact fin
  | succ m ih =>
    intro fu μ' hf h4 hr hb
    obtain ⟨fu, rfl⟩ : ∃ z, fu = z + 1 := ⟨fu - 1, by omega⟩
    have e1 : nI (s + (m + 1)) - 1 = nI (s + m) := nI_pred (s + m)
    rw [f_X1_insertEntry_b11, if_neg (nI_nle (by omega) (by omega)), dec1, e1, keyAt_n hl (by omega), Option.bind_some, hr (s + m) (by omega), if_neg (hb (s + m) (by omega) (by omega)), moveEntry_n hl (by omega) hl (by omega), Option.bind_some]
    rw [ih fu _ (by omega) (by omega) (fun j hj => by rw [mst_ne (by omega), mst_eq, upd_ne (by omega)]; exact hr j (by omega)) (fun j h1 h2 => hb j h1 (by omega))]
    rw [mst_ne (show q + 7 ≠ q + 8 by omega), mst_eq, mst_eq, mst_ne (show q + 8 ≠ q + 7 by omega), mst2_rst (by omega), rst_comm (a := q + 7) (b := q + 8) (by omega), rst_rst, rst_comm (a := q + 8) (b := q + 7) (by omega), rst_rst]
    have i1 := insR_step (f := μ' (q + 7)) (z := 5 * l) (s := s) (n := s + (m + 1)) (x := key) (by omega)
    have i2 := insR_step (f := μ' (q + 8)) (z := 5 * l) (s := s) (n := s + (m + 1)) (x := val) (by omega)
    rw [show s + (m + 1) - 1 = s + m by omega] at i1 i2
    rw [i1, i2]
end PSPL
