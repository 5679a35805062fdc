/-! PURE, leaves cut out, entries put in and cut out: in step on both sides -/
section PENTW
variable {q : Nat} {μ : Mem} {p : Nat → Int32} {b b' w w' k r v s t i d l n pl : Nat} {x y kind key val : Int32}
def ctL (d : Nat) : Nat → Nat → (Nat → Int32) → (Nat → Int32)
  | 0, _, p => p
  | m + 1, k, p => ctL d m (k + 1) (sB p d (6 + k) (gB p d (6 + (k + 1))))
def cuL (p : Nat → Int32) (d pl n : Nat) : Nat → Int32 := sB (ctL d (n - 1 - pl) pl p) d 2 (nI (n - 1))
theorem n_pred (h : 0 < n) : nI n - 1 = nI (n - 1) := by
  obtain ⟨m, rfl⟩ : ∃ m, n = m + 1 := ⟨n - 1, by omega⟩
  exact nI_pred m
theorem cutLeafC (hd : d < 32) : ∀ (m k fu : Nat) (μ : Mem) (p : Nat → Int32) (n : Nat), m < fu → RB q μ p → gB p d 0 ≠ 0 → gB p d 1 = 1 → EqL q μ p d n → k + m + 1 = n → n ≤ 6 → ∃ μ', f_X1_cutLeaf_b9 q fu (nI d) (nI n) (nI k) μ = some μ' ∧ RB q μ' (sB (ctL d m k p) d 2 (nI (n - 1))) ∧ Fr q μ μ' := by
  intro m
  induction m with
  | zero =>
    intro k fu μ p n hf h h0 h1 hE hk hn
    obtain ⟨fu, rfl⟩ : ∃ z, fu = z + 1 := ⟨fu - 1, by omega⟩
    rw [f_X1_cutLeaf_b9, n_pred (by omega), if_pos (nI_le (by omega) (by omega)), setCell_n hd (by decide), Option.bind_some]
    refine ⟨_, rfl, h.setSize hd h0 (by omega) (fun g => ?_) (fun _ => hE.mono (by omega)), Fr.mst (by omega) (by omega)⟩
    rw [h1] at g
    exact absurd g (by decide)
  | succ m ih =>
    intro k fu μ p n hf h h0 h1 hE hk hn
    obtain ⟨fu, rfl⟩ : ∃ z, fu = z + 1 := ⟨fu - 1, by omega⟩
    rw [f_X1_cutLeaf_b9, n_pred (by omega), if_neg (nI_ge (by omega) (by omega)), nI_1, leafAt_n hd (by omega), Option.bind_some, setLeaf_n hd (by omega), Option.bind_some, hE (k + 1) (by omega) (by omega)]
    obtain ⟨μ', g1, g2, g3⟩ := ih (k + 1) fu (mst μ (q + 9) (6 * d + k) (gB p d (6 + (k + 1)))) (sB p d (6 + k) (gB p d (6 + (k + 1)))) n (by omega) (h.setLeafR hd h1 (by omega)) (by rw [gB_sB (by omega) (by decide), if_neg (by omega)]; exact h0) (by rw [gB_sB (by omega) (by decide), if_neg (by omega)]; exact h1) ((hE.set (i := k) (by omega) (by omega)).mono (by split <;> omega)) (by omega) hn
    exact ⟨μ', g1, g2, (Fr.mst (by omega) (by omega)).tr g3⟩
theorem cutLeafM (hd : d < 32) : ∀ (m k fu : Nat) (p : Nat → Int32) (n : Nat), m < fu → gB p d 2 = nI n → k + m + 1 = n → n ≤ 6 → f_X7_doRemove_b170 q fu x (nI d) (nI k) (rst μ (q + 1) p) = some (x, rst μ (q + 1) (sB (ctL d m k p) d 2 (nI (n - 1)))) := by
  intro m
  induction m with
  | zero =>
    intro k fu p n hf h2 hk hn
    obtain ⟨fu, rfl⟩ : ∃ z, fu = z + 1 := ⟨fu - 1, by omega⟩
    rw [f_X7_doRemove_b170, of2 hd, rst_eq, Option.bind_some, h2, nI_1, if_pos (nI_le (by omega) (by omega)), Option.bind_some, n_pred (by omega), lay_rc (y := 2) 2 rfl hd (by decide), Option.bind_some]
    rfl
  | succ m ih =>
    intro k fu p n hf h2 hk hn
    obtain ⟨fu, rfl⟩ : ∃ z, fu = z + 1 := ⟨fu - 1, by omega⟩
    rw [f_X7_doRemove_b170, of2 hd, rst_eq, Option.bind_some, h2, nI_1, if_neg (nI_ge (by omega) (by omega)), leafAtM_n hd (by omega), rst_eq, Option.bind_some, show (6 : Int32) + nI k = nI (6 + k) by rw [show (6 : Int32) = nI 6 from rfl, nI_add], lay_rr hd (by omega), Option.bind_some, ih (k + 1) fu _ n (by omega) (by rw [gB_sB (by omega) (by decide), if_neg (by omega)]; exact h2) (by omega) hn]
    rfl
-- entries
def setE (p : Nat → Int32) (l i : Nat) (x y : Int32) : Nat → Int32 := sB (sB p l (6 + 2 * i) x) l (7 + 2 * i) y
theorem setE_lo {i : Nat} (hi : i < 4) (hw : w' < 6) : gB (setE p l i x y) b' w' = gB p b' w' := by
  unfold setE
  rw [gB_sB (by omega) (by omega), if_neg (by omega), gB_sB (by omega) (by omega), if_neg (by omega)]
theorem setE_ne {i : Nat} (hi : i < 4) (hw : w' < 14) (h : b' ≠ l) : gB (setE p l i x y) b' w' = gB p b' w' := by
  unfold setE
  rw [gB_sB (by omega) (by omega), if_neg (fun z => h z.1), gB_sB (by omega) (by omega), if_neg (fun z => h z.1)]
theorem setE_k {i j : Nat} (hi : i < 4) (hj : j < 4) : gB (setE p l i x y) l (6 + 2 * j) = (if j = i then x else gB p l (6 + 2 * j)) ∧ gB (setE p l i x y) l (7 + 2 * j) = (if j = i then y else gB p l (7 + 2 * j)) := by
  unfold setE
  rw [gB_sB (by omega) (by omega), gB_sB (by omega) (by omega), gB_sB (by omega) (by omega), gB_sB (by omega) (by omega), if_neg (show ¬ (l = l ∧ 6 + 2 * j = 7 + 2 * i) by omega)]
  by_cases c : j = i
  · rw [if_pos ⟨rfl, by omega⟩, if_pos c, if_pos ⟨rfl, by omega⟩, if_pos c]
    exact ⟨rfl, rfl⟩
  · rw [if_neg (by omega), if_neg c, if_neg (by omega), if_neg (by omega), if_neg c]
    exact ⟨rfl, rfl⟩
theorem setE_same {i : Nat} (hl : l < 32) (hi : i < 4) : Same p (setE p l i x y) := (Same.sB hl (by omega)).tr (Same.sB hl (by omega))
theorem setEntry_r {i : Nat} (hl : l < 32) (hi : i < 4) : f_X7_setEntry q (nI l) (nI i) x y (rst μ (q + 1) p) = some (rst μ (q + 1) (setE p l i x y)) := by
  unfold f_X7_setEntry
  rw [show (6 : Int32) + 2 * nI i + 1 = nI (7 + 2 * i) by rw [show (2 : Int32) = nI 2 from rfl, nI_mul, show (6 : Int32) = nI 6 from rfl, nI_add, nI_1]; congr 1; omega, show (6 : Int32) + 2 * nI i = nI (6 + 2 * i) by rw [show (2 : Int32) = nI 2 from rfl, nI_mul, show (6 : Int32) = nI 6 from rfl, nI_add], lay_rr hl (by omega), Option.bind_some, lay_rr hl (by omega), Option.bind_some]
  rfl
theorem EqE.set (h : EqE q μ p l n) {i : Nat} (hi : i ≤ n) (h4 : i < 4) : EqE q (mst (mst μ (q + 7) (5 * l + i) x) (q + 8) (5 * l + i) y) (setE p l i x y) l (if i = n then n + 1 else n) := by
  intro j hj hj4
  have e := setE_k (p := p) (l := l) (x := x) (y := y) h4 hj4
  rw [e.1, e.2, mst_ne (show q + 7 ≠ q + 8 by omega), mst_eq, mst_eq, mst_ne (show q + 8 ≠ q + 7 by omega)]
  by_cases c : j = i
  · rw [if_pos c, if_pos c, c, upd_eq, upd_eq]
    exact ⟨rfl, rfl⟩
  · rw [if_neg c, if_neg c, upd_ne (by omega), upd_ne (by omega)]
    refine h j ?_ hj4
    split at hj <;> omega
theorem EqE.mono {m : Nat} (h : EqE q μ p d n) (hm : m ≤ n) : EqE q μ p d m := fun i hi h6 => h i (by omega) h6
def ctE (l : Nat) : Nat → Nat → (Nat → Int32) → (Nat → Int32)
  | 0, _, p => p
  | m + 1, k, p => ctE l m (k + 1) (setE p l k (gB p l (6 + 2 * (k + 1))) (gB p l (7 + 2 * (k + 1))))
theorem cutEntryC (hl : l < 32) : ∀ (m k fu : Nat) (μ : Mem) (p : Nat → Int32) (n : Nat), m < fu → RB q μ p → gB p l 0 ≠ 0 → gB p l 1 = 0 → EqE q μ p l n → k + m + 1 = n → n ≤ 4 → ∃ μ', f_X1_cutEntry_b9 q fu (nI l) (nI n) (nI k) μ = some μ' ∧ RB q μ' (sB (ctE l m k p) l 2 (nI (n - 1))) ∧ Fr q μ μ' := by
  intro m
  induction m with
  | zero =>
    intro k fu μ p n hf h h0 h1 hE hk hn
    obtain ⟨fu, rfl⟩ : ∃ z, fu = z + 1 := ⟨fu - 1, by omega⟩
    rw [f_X1_cutEntry_b9, n_pred (by omega), if_pos (nI_le (by omega) (by omega)), setCell_n hl (by decide), Option.bind_some]
    refine ⟨_, rfl, h.setSize hl h0 (by omega) (fun _ => hE.mono (by omega)) (fun g => ?_), Fr.mst (by omega) (by omega)⟩
    rw [h1] at g
    exact absurd g (by decide)
  | succ m ih =>
    intro k fu μ p n hf h h0 h1 hE hk hn
    obtain ⟨fu, rfl⟩ : ∃ z, fu = z + 1 := ⟨fu - 1, by omega⟩
    have e := hE (k + 1) (by omega) (by omega)
    rw [f_X1_cutEntry_b9, n_pred (by omega), if_neg (nI_ge (by omega) (by omega)), nI_1, moveEntry_n hl (by omega) hl (by omega), Option.bind_some, e.1, e.2]
    obtain ⟨μ', g1, g2, g3⟩ := ih (k + 1) fu _ _ n (by omega) (h.setEntR (x := gB p l (6 + 2 * (k + 1))) (y := gB p l (7 + 2 * (k + 1))) hl h1 (i := k) (by omega)) (by rw [show gB (sB (sB p l (6 + 2 * k) (gB p l (6 + 2 * (k + 1)))) l (7 + 2 * k) (gB p l (7 + 2 * (k + 1)))) l 0 = gB p l 0 from setE_lo (i := k) (by omega) (by decide)]; exact h0) (by rw [show gB (sB (sB p l (6 + 2 * k) (gB p l (6 + 2 * (k + 1)))) l (7 + 2 * k) (gB p l (7 + 2 * (k + 1)))) l 1 = gB p l 1 from setE_lo (i := k) (by omega) (by decide)]; exact h1) ((hE.set (i := k) (by omega) (by omega)).mono (by split <;> omega)) (by omega) hn
    exact ⟨μ', g1, g2, ((Fr.mst (by omega) (by omega)).tr (Fr.mst (by omega) (by omega))).tr g3⟩
theorem cutEntryM (hl : l < 32) : ∀ (m k fu : Nat) (p : Nat → Int32) (n : Nat), m < fu → gB p l 2 = nI n → k + m + 1 = n → n ≤ 4 → f_X7_doRemove_b247 q fu x (nI l) (nI k) (rst μ (q + 1) p) = some (x, rst μ (q + 1) (sB (ctE l m k p) l 2 (nI (n - 1)))) := by
  intro m
  induction m with
  | zero =>
    intro k fu p n hf h2 hk hn
    obtain ⟨fu, rfl⟩ : ∃ z, fu = z + 1 := ⟨fu - 1, by omega⟩
    rw [f_X7_doRemove_b247, of2 hl, rst_eq, Option.bind_some, h2, nI_1, if_pos (nI_le (by omega) (by omega)), Option.bind_some, n_pred (by omega), lay_rc (y := 2) 2 rfl hl (by decide), Option.bind_some]
    rfl
  | succ m ih =>
    intro k fu p n hf h2 hk hn
    obtain ⟨fu, rfl⟩ : ∃ z, fu = z + 1 := ⟨fu - 1, by omega⟩
    rw [f_X7_doRemove_b247, of2 hl, rst_eq, Option.bind_some, h2, nI_1, if_neg (nI_ge (by omega) (by omega)), keyAtM_n hl (by omega), valueAtM_n hl (by omega), rst_eq, Option.bind_some, Option.bind_some, setEntry_r hl (by omega), Option.bind_some, ih (k + 1) fu _ n (by omega) (by rw [setE_lo (by omega) (by decide)]; exact h2) (by omega) hn]
    rfl
/-- entries greater than a key go one place on, from place n down; where the key then goes -/
def shE (l : Nat) (key : Int32) : Nat → (Nat → Int32) → (Nat → Int32) × Nat
  | 0, p => (p, 0)
  | k + 1, p => if gB p l (6 + 2 * k) ≤ key then (p, k + 1) else shE l key k (setE p l (k + 1) (gB p l (6 + 2 * k)) (gB p l (7 + 2 * k)))
def inE (p : Nat → Int32) (l k : Nat) (key val : Int32) (n : Nat) : Nat → Int32 := sB (setE (shE l key k p).1 l (shE l key k p).2 key val) l 2 (nI (n + 1))
theorem insertEntryC (hl : l < 32) : ∀ (k fu N : Nat) (μ : Mem) (p : Nat → Int32) (n : Nat), k < fu → RB q μ p → gB p l 0 ≠ 0 → gB p l 1 = 0 → EqE q μ p l N → (N = n + 1 ∨ (N = n ∧ k = n)) → k ≤ n → n < 4 → ∃ μ', f_X1_insertEntry_b11 q fu (nI l) key val (nI n) (nI k) μ = some μ' ∧ RB q μ' (inE p l k key val n) ∧ Fr q μ μ' := by
  intro k
  induction k with
  | zero =>
    intro fu N μ p n hf h h0 h1 hE hN hm hn
    obtain ⟨fu, rfl⟩ : ∃ z, fu = z + 1 := ⟨fu - 1, by omega⟩
    rw [f_X1_insertEntry_b11, if_pos (show nI 0 ≤ 0 by decide)]
    unfold f_X1_insertEntry_b47
    rw [setEntryC_n hl (by omega), Option.bind_some, nI_1, setCell_n hl (by decide), Option.bind_some]
    have e2 : EqE q (mst (mst μ (q + 7) (5 * l + 0) key) (q + 8) (5 * l + 0) val) (setE p l 0 key val) l (n + 1) := by
      refine (hE.set (i := 0) (by omega) (by omega)).mono ?_
      split <;> omega
    refine ⟨_, rfl, (h.setEntR hl h1 (i := 0) (by omega)).setSize hl ?_ (by omega) (fun _ => e2) (fun g => ?_), ((Fr.mst (by omega) (by omega)).tr (Fr.mst (by omega) (by omega))).tr (Fr.mst (by omega) (by omega))⟩
    · rw [show gB (sB (sB p l (6 + 2 * 0) key) l (7 + 2 * 0) val) l 0 = gB p l 0 from setE_lo (i := 0) (by omega) (by decide)]
      exact h0
    · rw [show gB (sB (sB p l (6 + 2 * 0) key) l (7 + 2 * 0) val) l 1 = gB p l 1 from setE_lo (i := 0) (by omega) (by decide), h1] at g
      exact absurd g (by decide)
  | succ k ih =>
    intro fu N μ p n hf h h0 h1 hE hN hm hn
    obtain ⟨fu, rfl⟩ : ∃ z, fu = z + 1 := ⟨fu - 1, by omega⟩
    have e := hE k (by omega) (by omega)
    have es : shE l key (k + 1) p = if gB p l (6 + 2 * k) ≤ key then (p, k + 1) else shE l key k (setE p l (k + 1) (gB p l (6 + 2 * k)) (gB p l (7 + 2 * k))) := rfl
    rw [f_X1_insertEntry_b11, if_neg (nI_nle (by omega) (by omega)), dec1, nI_pred, keyAt_n hl (by omega), Option.bind_some, e.1]
    by_cases c : gB p l (6 + 2 * k) ≤ key
    · rw [if_pos c]
      unfold f_X1_insertEntry_b47 inE
      rw [es, if_pos c, setEntryC_n hl (by omega), Option.bind_some, nI_1, setCell_n hl (by decide), Option.bind_some]
      have e2 : EqE q (mst (mst μ (q + 7) (5 * l + (k + 1)) key) (q + 8) (5 * l + (k + 1)) val) (setE p l (k + 1) key val) l (n + 1) := by
        refine (hE.set (i := k + 1) (by omega) (by omega)).mono ?_
        split <;> omega
      refine ⟨_, rfl, (h.setEntR hl h1 (i := k + 1) (by omega)).setSize hl ?_ (by omega) (fun _ => e2) (fun g => ?_), ((Fr.mst (by omega) (by omega)).tr (Fr.mst (by omega) (by omega))).tr (Fr.mst (by omega) (by omega))⟩
      · rw [show gB (sB (sB p l (6 + 2 * (k + 1)) key) l (7 + 2 * (k + 1)) val) l 0 = gB p l 0 from setE_lo (i := k + 1) (by omega) (by decide)]
        exact h0
      · rw [show gB (sB (sB p l (6 + 2 * (k + 1)) key) l (7 + 2 * (k + 1)) val) l 1 = gB p l 1 from setE_lo (i := k + 1) (by omega) (by decide), h1] at g
        exact absurd g (by decide)
    · rw [if_neg c, moveEntry_n hl (by omega) hl (by omega), Option.bind_some, e.1, e.2]
      obtain ⟨μ', g1, g2, g3⟩ := ih fu (if k + 1 = N then N + 1 else N) _ _ n (by omega) (h.setEntR (x := gB p l (6 + 2 * k)) (y := gB p l (7 + 2 * k)) hl h1 (i := k + 1) (by omega)) (by rw [show gB (sB (sB p l (6 + 2 * (k + 1)) (gB p l (6 + 2 * k))) l (7 + 2 * (k + 1)) (gB p l (7 + 2 * k))) l 0 = gB p l 0 from setE_lo (i := k + 1) (by omega) (by decide)]; exact h0) (by rw [show gB (sB (sB p l (6 + 2 * (k + 1)) (gB p l (6 + 2 * k))) l (7 + 2 * (k + 1)) (gB p l (7 + 2 * k))) l 1 = gB p l 1 from setE_lo (i := k + 1) (by omega) (by decide)]; exact h1) (hE.set (by omega) (by omega)) (by split <;> omega) (by omega) hn
      refine ⟨μ', g1, ?_, ((Fr.mst (by omega) (by omega)).tr (Fr.mst (by omega) (by omega))).tr g3⟩
      unfold inE at g2 ⊢
      rw [es, if_neg c]
      exact g2
theorem insertsM (hl : l < 32) : ∀ (k fu : Nat) (p : Nat → Int32) (n : Nat), k < fu → gB p l 2 = nI n → k ≤ n → n < 4 → f_X7_inserts_b8 q fu (nI l) key val (nI k) (rst μ (q + 1) p) = some (rst μ (q + 1) (inE p l k key val n)) := by
  intro k
  induction k with
  | zero =>
    intro fu p n hf h2 hm hn
    obtain ⟨fu, rfl⟩ : ∃ z, fu = z + 1 := ⟨fu - 1, by omega⟩
    rw [f_X7_inserts_b8, if_pos (show nI 0 ≤ 0 by decide)]
    unfold f_X7_inserts_b57
    rw [setEntry_r hl (by omega), Option.bind_some, of2 hl, rst_eq, Option.bind_some, setE_lo (by omega) (by decide), h2, nI_1, lay_rc (y := 2) 2 rfl hl (by decide), Option.bind_some]
    rfl
  | succ k ih =>
    intro fu p n hf h2 hm hn
    obtain ⟨fu, rfl⟩ : ∃ z, fu = z + 1 := ⟨fu - 1, by omega⟩
    have es : shE l key (k + 1) p = if gB p l (6 + 2 * k) ≤ key then (p, k + 1) else shE l key k (setE p l (k + 1) (gB p l (6 + 2 * k)) (gB p l (7 + 2 * k))) := rfl
    rw [f_X7_inserts_b8, if_neg (nI_nle (by omega) (by omega)), dec1, nI_pred, keyAtM_n hl (by omega), valueAtM_n hl (by omega), rst_eq, Option.bind_some, Option.bind_some, Option.bind_some]
    by_cases c : gB p l (6 + 2 * k) ≤ key
    · rw [if_pos c]
      unfold f_X7_inserts_b57 inE
      rw [es, if_pos c, setEntry_r hl (by omega), Option.bind_some, of2 hl, rst_eq, Option.bind_some, setE_lo (by omega) (by decide), h2, nI_1, lay_rc (y := 2) 2 rfl hl (by decide), Option.bind_some]
    · rw [if_neg c, setEntry_r hl (by omega), Option.bind_some, ih fu _ n (by omega) (by rw [setE_lo (by omega) (by decide)]; exact h2) (by omega) hn]
      unfold inE
      rw [es, if_neg c]
end PENTW
