/-! PURE, directories and leaves: what is read of them, on both sides -/
section PDIR
def LeafOK (p : Nat → Int32) (l : Nat) : Prop := l < 32 ∧ gB p l 0 ≠ 0 ∧ gB p l 1 = 0 ∧ gB p l 2 = nI (nB p l 2) ∧ 1 ≤ nB p l 2 ∧ nB p l 2 ≤ 4 ∧ ∀ i j, i < j → j < nB p l 2 → gB p l (6 + 2 * i) < gB p l (6 + 2 * j)
def DirOK (p : Nat → Int32) (d : Nat) : Prop := d < 32 ∧ gB p d 0 ≠ 0 ∧ gB p d 1 = 1 ∧ gB p d 2 = nI (nB p d 2) ∧ nB p d 2 ≤ 6 ∧ (∀ i, i < nB p d 2 → gB p d (6 + i) = nI (nB p d (6 + i)) ∧ LeafOK p (nB p d (6 + i))) ∧ (∀ i j, i < nB p d 2 → j < nB p d 2 → nB p d (6 + i) = nB p d (6 + j) → i = j)
def pstep (p : Nat → Int32) (d : Nat) (key : Int32) (k f : Nat) : Nat := if gB p (nB p d (6 + k)) 6 ≤ key then k else f
def plc (p : Nat → Int32) (d : Nat) (key : Int32) : Option Nat := if nB p d 2 = 0 then none else some (lp (pstep p d key) (nB p d 2) 0 0)
def ein (p : Nat → Int32) (l : Nat) (key : Int32) : Option Nat := sr (fun i => decide (gB p l (6 + 2 * i) = key)) (nB p l 2) 0
def vby (p : Nat → Int32) (d : Nat) (key : Int32) : Int32 := match plc p d key with
  | none => -1000
  | some k => match ein p (nB p d (6 + k)) key with
    | none => -1000
    | some i => gB p (nB p d (6 + k)) (7 + 2 * i)
def ens (p : Nat → Int32) (d : Nat) : Nat := lp (fun k a => a + nB p (nB p d (6 + k)) 2) (nB p d 2) 0 0
variable {q : Nat} {μ : Mem} {g : Nat} {p : Nat → Int32} {d : Nat} {key : Int32}
theorem pstep_y {k f : Nat} (h : gB p (nB p d (6 + k)) 6 ≤ key) : pstep p d key k f = k := if_pos h
theorem pstep_n {k f : Nat} (h : ¬ gB p (nB p d (6 + k)) 6 ≤ key) : pstep p d key k f = f := if_neg h
theorem plc_lt {k : Nat} (h : plc p d key = some k) : k < nB p d 2 := by
  unfold plc at h
  split at h
  · cases h
  · rename_i hn
    have e := Option.some.inj h
    have hi := lp_inv (s := pstep p d key) (fun _ f => f < nB p d 2) (nB p d 2) 0 0 (by omega) (fun j h1 h2 a ha => by
      unfold pstep
      split
      · omega
      · exact ha)
    rw [e] at hi
    exact hi
theorem ein_lt {l i : Nat} (h : ein p l key = some i) : i < nB p l 2 ∧ gB p l (6 + 2 * i) = key := by
  obtain ⟨-, h2, h3, -⟩ := sr_some _ _ _ h
  exact ⟨by omega, of_decide_eq_true h3⟩
theorem vby_0 (e : plc p d key = none) : vby p d key = -1000 := by
  unfold vby
  rw [e]
theorem vby_1 {k : Nat} (e : plc p d key = some k) (e2 : ein p (nB p d (6 + k)) key = none) : vby p d key = -1000 := by
  unfold vby
  rw [e]
  show (match ein p (nB p d (6 + k)) key with
    | none => -1000
    | some i => gB p (nB p d (6 + k)) (7 + 2 * i)) = -1000
  rw [e2]
theorem vby_2 {k i : Nat} (e : plc p d key = some k) (e2 : ein p (nB p d (6 + k)) key = some i) : vby p d key = gB p (nB p d (6 + k)) (7 + 2 * i) := by
  unfold vby
  rw [e]
  show (match ein p (nB p d (6 + k)) key with
    | none => -1000
    | some i => gB p (nB p d (6 + k)) (7 + 2 * i)) = _
  rw [e2]
theorem leafAtM_n {b i : Nat} (hb : b < 32) (hi : i < 8) : f_X7_leafAt q (nI b) (nI i) μ = some (gB (μ (q + 1)) b (6 + i)) := by
  unfold f_X7_leafAt
  rw [show (6 : Int32) + nI i = nI (6 + i) by rw [show (6 : Int32) = nI 6 from rfl, nI_add], of_n hb (by omega), Option.bind_some]
theorem keyAtM_n {b i : Nat} (hb : b < 32) (hi : i < 4) : f_X7_keyAt q (nI b) (nI i) μ = some (gB (μ (q + 1)) b (6 + 2 * i)) := by
  unfold f_X7_keyAt
  rw [show (6 : Int32) + 2 * nI i = nI (6 + 2 * i) by rw [show (2 : Int32) = nI 2 from rfl, nI_mul, show (6 : Int32) = nI 6 from rfl, nI_add], of_n hb (by omega), Option.bind_some]
theorem valueAtM_n {b i : Nat} (hb : b < 32) (hi : i < 4) : f_X7_valueAt q (nI b) (nI i) μ = some (gB (μ (q + 1)) b (7 + 2 * i)) := by
  unfold f_X7_valueAt
  rw [show (6 : Int32) + 2 * nI i + 1 = nI (7 + 2 * i) by rw [show (2 : Int32) = nI 2 from rfl, nI_mul, show (6 : Int32) = nI 6 from rfl, nI_add, nI_1]; congr 1; omega, of_n hb (by omega), Option.bind_some]
theorem keyAt0 {b : Nat} (hb : b < 32) : f_X7_keyAt q (nI b) 0 μ = some (gB (μ (q + 1)) b 6) := by
  have h := keyAtM_n (q := q) (μ := μ) (b := b) (i := 0) hb (by decide)
  rw [nI_0] at h
  exact h
theorem placeFor_b18 (h : DirOK (μ (q + 1)) d) : ∀ (n k fu f : Nat), k + n = nB (μ (q + 1)) d 2 → n < fu → f_X7_placeFor_b18 q fu (nI d) key (nI f) (nI k) μ = some (nI (lp (pstep (μ (q + 1)) d key) n k f)) := by
  obtain ⟨hd, -, -, hm, h6, hl, -⟩ := h
  intro n
  induction n with
  | zero =>
    intro k fu f hk hf
    obtain ⟨fu, rfl⟩ : ∃ z, fu = z + 1 := ⟨fu - 1, by omega⟩
    rw [f_X7_placeFor_b18, of2 hd, hm, Option.bind_some, if_pos (nI_le (by omega) (by omega))]
    rfl
  | succ n ih =>
    intro k fu f hk hf
    obtain ⟨fu, rfl⟩ : ∃ z, fu = z + 1 := ⟨fu - 1, by omega⟩
    obtain ⟨l1, l2⟩ := hl k (by omega)
    rw [f_X7_placeFor_b18, of2 hd, hm, Option.bind_some, if_neg (nI_ge (by omega) (by omega)), leafAtM_n hd (by omega), Option.bind_some, l1, keyAt0 l2.1, Option.bind_some]
    unfold f_X7_placeFor_b51
    rw [nI_1]
    show _ = some (nI (lp (pstep (μ (q + 1)) d key) n (k + 1) (pstep (μ (q + 1)) d key k f)))
    by_cases c : key < gB (μ (q + 1)) (nB (μ (q + 1)) d (6 + k)) 6
    · rw [if_pos c, pstep_n (Int32.not_le.mpr c)]
      exact ih (k + 1) fu f (by omega) (by omega)
    · rw [if_neg c, pstep_y (Int32.not_lt.mp c)]
      exact ih (k + 1) fu k (by omega) (by omega)
theorem placeFor_n (h : DirOK (μ (q + 1)) d) : f_X7_placeFor q (nI d) key μ = some (oI (-1) (plc (μ (q + 1)) d key)) := by
  have hd := h.1
  have hm := h.2.2.2.1
  have h6 := h.2.2.2.2.1
  unfold f_X7_placeFor f_X7_placeFor_b14
  rw [of2 hd, Option.bind_some]
  unfold plc
  by_cases c : nB (μ (q + 1)) d 2 = 0
  · have e : gB (μ (q + 1)) d 2 = 0 := by rw [hm, c]; rfl
    rw [if_pos e, if_pos c, show FU = 4095 + 1 from rfl, f_X7_placeFor_b18, of2 hd, Option.bind_some, e, if_pos (by decide)]
    rfl
  · have e : ¬ gB (μ (q + 1)) d 2 = 0 := by rw [hm]; exact nI_ne0 (by omega) (by omega)
    rw [if_neg e, if_neg c]
    have q1 := placeFor_b18 (key := key) h (nB (μ (q + 1)) d 2) 0 FU 0 (by omega) (by unfold FU; omega)
    rw [nI_0] at q1
    exact q1
theorem placeIn_b2 {l : Nat} (h : LeafOK (μ (q + 1)) l) : ∀ (n k fu : Nat), k + n = nB (μ (q + 1)) l 2 → n < fu → f_X7_placeIn_b2 q fu (nI l) key (nI k) μ = some (oI (-1) (sr (fun i => decide (gB (μ (q + 1)) l (6 + 2 * i) = key)) n k)) := by
  obtain ⟨hd, -, -, hm, h1, h4, -⟩ := h
  intro n
  induction n with
  | zero =>
    intro k fu hk hf
    obtain ⟨fu, rfl⟩ : ∃ z, fu = z + 1 := ⟨fu - 1, by omega⟩
    rw [f_X7_placeIn_b2, of2 hd, hm, Option.bind_some, if_pos (nI_le (by omega) (by omega))]
    rfl
  | succ n ih =>
    intro k fu hk hf
    obtain ⟨fu, rfl⟩ : ∃ z, fu = z + 1 := ⟨fu - 1, by omega⟩
    rw [f_X7_placeIn_b2, of2 hd, hm, Option.bind_some, if_neg (nI_ge (by omega) (by omega)), keyAtM_n hd (by omega), Option.bind_some, nI_1]
    show _ = some (oI (-1) (if decide (gB (μ (q + 1)) l (6 + 2 * k) = key) then some k else sr _ n (k + 1)))
    by_cases c : gB (μ (q + 1)) l (6 + 2 * k) = key
    · rw [if_pos c, if_pos (decide_eq_true c)]
      rfl
    · rw [if_neg c, if_neg (fun z => c (of_decide_eq_true z))]
      exact ih (k + 1) fu (by omega) (by omega)
theorem placeIn_n {l : Nat} (h : LeafOK (μ (q + 1)) l) : f_X7_placeIn q (nI l) key μ = some (oI (-1) (ein (μ (q + 1)) l key)) := by
  have h4 := h.2.2.2.2.2.1
  have q1 := placeIn_b2 (key := key) h (nB (μ (q + 1)) l 2) 0 FU (by omega) (by unfold FU; omega)
  rw [nI_0] at q1
  exact q1
theorem valueBy_n (h : DirOK (μ (q + 1)) d) : f_X7_valueBy q (nI d) key μ = some (vby (μ (q + 1)) d key) := by
  unfold f_X7_valueBy f_X7_valueBy_b26 f_X7_valueBy_b51
  rw [placeFor_n h, Option.bind_some]
  have h6 := h.2.2.2.2.1
  cases e : plc (μ (q + 1)) d key with
  | none =>
    rw [if_neg (show ¬ (0 : Int32) ≤ oI (-1) none by decide), if_neg (by decide), vby_0 e]
  | some k =>
    have hk := plc_lt e
    obtain ⟨l1, l2⟩ := h.2.2.2.2.2.1 k hk
    have h4 := l2.2.2.2.2.2.1
    rw [if_pos (show (0 : Int32) ≤ oI (-1) (some k) from nI_pos' (by omega)), show oI (-1) (some k) = nI k from rfl, leafAtM_n h.1 (by omega), Option.bind_some, l1, placeIn_n l2, Option.bind_some]
    cases e2 : ein (μ (q + 1)) (nB (μ (q + 1)) d (6 + k)) key with
    | none =>
      rw [if_neg (show ¬ (0 : Int32) ≤ oI (-1) none by decide), vby_1 e e2]
    | some i =>
      have hi := (ein_lt e2).1
      rw [if_pos (show (0 : Int32) ≤ oI (-1) (some i) from nI_pos' (by omega)), Option.bind_some, show oI (-1) (some i) = nI i from rfl, valueAtM_n l2.1 (by omega), Option.bind_some, vby_2 e e2]
theorem entriesBy_b4 (h : DirOK (μ (q + 1)) d) : ∀ (n k fu a : Nat), k + n = nB (μ (q + 1)) d 2 → n < fu → f_X7_entriesBy_b4 q fu (nI d) (nI a) (nI k) μ = some (nI (lp (fun k a => a + nB (μ (q + 1)) (nB (μ (q + 1)) d (6 + k)) 2) n k a)) := by
  obtain ⟨hd, -, -, hm, h6, hl, -⟩ := h
  intro n
  induction n with
  | zero =>
    intro k fu a hk hf
    obtain ⟨fu, rfl⟩ : ∃ z, fu = z + 1 := ⟨fu - 1, by omega⟩
    rw [f_X7_entriesBy_b4, of2 hd, hm, Option.bind_some, if_pos (nI_le (by omega) (by omega))]
    rfl
  | succ n ih =>
    intro k fu a hk hf
    obtain ⟨fu, rfl⟩ : ∃ z, fu = z + 1 := ⟨fu - 1, by omega⟩
    obtain ⟨l1, l2⟩ := hl k (by omega)
    rw [f_X7_entriesBy_b4, of2 hd, hm, Option.bind_some, if_neg (nI_ge (by omega) (by omega)), leafAtM_n hd (by omega), Option.bind_some, l1, of2 l2.1, Option.bind_some, l2.2.2.2.1, nI_1, nI_add]
    exact ih (k + 1) fu (a + nB (μ (q + 1)) (nB (μ (q + 1)) d (6 + k)) 2) (by omega) (by omega)
theorem entriesBy_n (h : DirOK (μ (q + 1)) d) : f_X7_entriesBy q (nI d) μ = some (nI (ens (μ (q + 1)) d)) := by
  have h6 := h.2.2.2.2.1
  have q1 := entriesBy_b4 h (nB (μ (q + 1)) d 2) 0 FU 0 (by omega) (by unfold FU; omega)
  rw [nI_0] at q1
  exact q1
-- the class
theorem RB.size (h : RB q μ p) {b : Nat} (hb : b < 32) (h0 : gB p b 0 ≠ 0) : f_X1_sizeOf q (nI b) μ = some (gB p b 2) := by
  rw [sizeOf_n hb, (h.1 b hb).2.2.1, if_neg h0]
theorem RB.leaf (h : RB q μ p) (hd : DirOK p d) {k : Nat} (hk : k < nB p d 2) : f_X1_leafAt q (nI d) (nI k) μ = some (nI (nB p d (6 + k))) := by
  have h6 := hd.2.2.2.2.1
  rw [leafAt_n hd.1 (by omega), h.2.2 d hd.1 hd.2.1 hd.2.2.1 k hk (by omega), (hd.2.2.2.2.2.1 k hk).1]
theorem RB.keyOf (h : RB q μ p) {l : Nat} (hl : LeafOK p l) {i : Nat} (hi : i < nB p l 2) : f_X1_keyAt q (nI l) (nI i) μ = some (gB p l (6 + 2 * i)) := by
  have h4 := hl.2.2.2.2.2.1
  rw [keyAt_n hl.1 (by omega), (h.2.1 l hl.1 hl.2.1 hl.2.2.1 i hi (by omega)).1]
theorem RB.val (h : RB q μ p) {l : Nat} (hl : LeafOK p l) {i : Nat} (hi : i < nB p l 2) : f_X1_valueAt q (nI l) (nI i) μ = some (gB p l (7 + 2 * i)) := by
  have h4 := hl.2.2.2.2.2.1
  rw [valueAt_n hl.1 (by omega), (h.2.1 l hl.1 hl.2.1 hl.2.2.1 i hi (by omega)).2]
theorem RB.leafPlace_b22 (h : RB q μ p) (hd : DirOK p d) : ∀ (n k fu f : Nat), k + n = nB p d 2 → n < fu → f_X1_leafPlace_b22 q fu (nI d) key (nI (nB p d 2)) (nI f) (nI k) μ = some (nI (lp (pstep p d key) n k f)) := by
  have h6 := hd.2.2.2.2.1
  intro n
  induction n with
  | zero =>
    intro k fu f hk hf
    obtain ⟨fu, rfl⟩ : ∃ z, fu = z + 1 := ⟨fu - 1, by omega⟩
    rw [f_X1_leafPlace_b22, if_pos (nI_le (by omega) (by omega))]
    rfl
  | succ n ih =>
    intro k fu f hk hf
    obtain ⟨fu, rfl⟩ : ∃ z, fu = z + 1 := ⟨fu - 1, by omega⟩
    obtain ⟨l1, l2⟩ := hd.2.2.2.2.2.1 k (by omega)
    have hk0 := h.keyOf l2 (i := 0) (by have := l2.2.2.2.2.1; omega)
    rw [nI_0] at hk0
    rw [f_X1_leafPlace_b22, if_neg (nI_ge (by omega) (by omega)), h.leaf hd (by omega), Option.bind_some, hk0, Option.bind_some]
    unfold f_X1_leafPlace_b48
    rw [nI_1]
    show _ = some (nI (lp (pstep p d key) n (k + 1) (pstep p d key k f)))
    by_cases c : key < gB p (nB p d (6 + k)) 6
    · rw [if_pos (show key < gB p (nB p d (6 + k)) (6 + 2 * 0) from c), pstep_n (Int32.not_le.mpr c)]
      exact ih (k + 1) fu f (by omega) (by omega)
    · rw [if_neg (show ¬ key < gB p (nB p d (6 + k)) (6 + 2 * 0) from c), pstep_y (Int32.not_lt.mp c)]
      exact ih (k + 1) fu k (by omega) (by omega)
theorem RB.leafPlace (h : RB q μ p) (hd : DirOK p d) : f_X1_leafPlace q (nI d) key μ = some (oI (-1000) (plc p d key)) := by
  have hm := hd.2.2.2.1
  have h6 := hd.2.2.2.2.1
  unfold f_X1_leafPlace f_X1_leafPlace_b17
  rw [h.size hd.1 hd.2.1, Option.bind_some]
  unfold plc
  by_cases c : nB p d 2 = 0
  · have e : gB p d 2 = 0 := by rw [hm, c]; rfl
    rw [e, if_pos (by decide), if_pos c, show FU = 4095 + 1 from rfl, f_X1_leafPlace_b22, if_pos (by decide)]
    rfl
  · obtain ⟨n, hn⟩ : ∃ n, nB p d 2 = n + 1 := ⟨nB p d 2 - 1, by omega⟩
    rw [hm, if_neg (nI_nle (by omega) (by omega)), if_neg c]
    have q1 := h.leafPlace_b22 (key := key) hd n 1 FU 0 (by omega) (by unfold FU; omega)
    rw [nI_0, show nI 1 = 1 from rfl] at q1
    rw [q1, hn]
    have e : pstep p d key 0 0 = 0 := by unfold pstep; exact ite_self _
    show some (nI (lp (pstep p d key) n 1 0)) = some (nI (lp (pstep p d key) n (0 + 1) (pstep p d key 0 0)))
    rw [e]
theorem RB.entryPlace_b9 (h : RB q μ p) {l : Nat} (hl : LeafOK p l) : ∀ (n k fu : Nat), k + n = nB p l 2 → n < fu → f_X1_entryPlace_b9 q fu (nI l) key (nI (nB p l 2)) (nI k) μ = some (oI (-1000) (sr (fun i => decide (gB p l (6 + 2 * i) = key)) n k)) := by
  have h4 := hl.2.2.2.2.2.1
  intro n
  induction n with
  | zero =>
    intro k fu hk hf
    obtain ⟨fu, rfl⟩ : ∃ z, fu = z + 1 := ⟨fu - 1, by omega⟩
    rw [f_X1_entryPlace_b9, if_pos (nI_le (by omega) (by omega))]
    rfl
  | succ n ih =>
    intro k fu hk hf
    obtain ⟨fu, rfl⟩ : ∃ z, fu = z + 1 := ⟨fu - 1, by omega⟩
    rw [f_X1_entryPlace_b9, if_neg (nI_ge (by omega) (by omega)), h.keyOf hl (by omega), Option.bind_some, nI_1]
    show _ = some (oI (-1000) (if decide (gB p l (6 + 2 * k) = key) then some k else sr _ n (k + 1)))
    by_cases c : gB p l (6 + 2 * k) = key
    · rw [if_pos c, if_pos (decide_eq_true c)]
      rfl
    · rw [if_neg c, if_neg (fun z => c (of_decide_eq_true z))]
      exact ih (k + 1) fu (by omega) (by omega)
theorem RB.entryPlace (h : RB q μ p) {l : Nat} (hl : LeafOK p l) : f_X1_entryPlace q (nI l) key μ = some (oI (-1000) (ein p l key)) := by
  have h4 := hl.2.2.2.2.2.1
  unfold f_X1_entryPlace
  rw [h.size hl.1 hl.2.1, Option.bind_some, hl.2.2.2.1]
  have q1 := h.entryPlace_b9 (key := key) hl (nB p l 2) 0 FU (by omega) (by unfold FU; omega)
  rw [nI_0] at q1
  exact q1
theorem entryPlace_neg : f_X1_entryPlace q (-1000) key μ = some (-1000) := by
  unfold f_X1_entryPlace
  rw [sizeOf_neg (by decide), Option.bind_some, show FU = 4095 + 1 from rfl, f_X1_entryPlace_b9, if_pos (by decide)]
theorem RB.valueIn (h : RB q μ p) (hd : DirOK p d) : f_X1_valueIn q (nI d) key μ = some (vby p d key) := by
  unfold f_X1_valueIn
  rw [h.leafPlace hd, Option.bind_some]
  cases e : plc p d key with
  | none =>
    rw [leafAt_neg (show oI (-1000) none < 0 by decide), Option.bind_some, entryPlace_neg, Option.bind_some, valueAt_neg (by decide), Option.bind_some, vby_0 e]
  | some k =>
    have hk := plc_lt e
    obtain ⟨l1, l2⟩ := hd.2.2.2.2.2.1 k hk
    rw [show oI (-1000) (some k) = nI k from rfl, h.leaf hd hk, Option.bind_some, h.entryPlace l2, Option.bind_some]
    cases e2 : ein p (nB p d (6 + k)) key with
    | none =>
      rw [valueAt_neg (show oI (-1000) none < 0 by decide), Option.bind_some, vby_1 e e2]
    | some i =>
      rw [show oI (-1000) (some i) = nI i from rfl, h.val l2 (ein_lt e2).1, Option.bind_some, vby_2 e e2]
theorem RB.entriesIn_b11 (h : RB q μ p) (hd : DirOK p d) : ∀ (n k fu a : Nat), k + n = nB p d 2 → n < fu → f_X1_entriesIn_b11 q fu (nI d) (nI a) (nI (nB p d 2)) (nI k) μ = some (nI (lp (fun k a => a + nB p (nB p d (6 + k)) 2) n k a)) := by
  have h6 := hd.2.2.2.2.1
  intro n
  induction n with
  | zero =>
    intro k fu a hk hf
    obtain ⟨fu, rfl⟩ : ∃ z, fu = z + 1 := ⟨fu - 1, by omega⟩
    rw [f_X1_entriesIn_b11, if_pos (nI_le (by omega) (by omega))]
    rfl
  | succ n ih =>
    intro k fu a hk hf
    obtain ⟨fu, rfl⟩ : ∃ z, fu = z + 1 := ⟨fu - 1, by omega⟩
    obtain ⟨l1, l2⟩ := hd.2.2.2.2.2.1 k (by omega)
    rw [f_X1_entriesIn_b11, if_neg (nI_ge (by omega) (by omega)), h.leaf hd (by omega), Option.bind_some, h.size l2.1 l2.2.1, Option.bind_some, l2.2.2.2.1, nI_1, nI_add]
    exact ih (k + 1) fu (a + nB p (nB p d (6 + k)) 2) (by omega) (by omega)
theorem RB.entriesIn (h : RB q μ p) (hd : DirOK p d) : f_X1_entriesIn q (nI d) μ = some (nI (ens p d)) := by
  have h6 := hd.2.2.2.2.1
  unfold f_X1_entriesIn
  rw [h.size hd.1 hd.2.1, Option.bind_some, hd.2.2.2.1]
  have q1 := h.entriesIn_b11 hd (nB p d 2) 0 FU 0 (by omega) (by unfold FU; omega)
  rw [nI_0] at q1
  exact q1
end PDIR
