/-! PURE, the command text: bytes, spaces, letters, words -/
section PTX1
variable {q i j k n m e c len a : Nat} {μ μ' : Mem} {v x : Int32} {b : Nat → Int32}
def BY (b : Nat → Int32) (len : Nat) : Prop := len ≤ 150 ∧ (∀ i, i < len → ∃ k, k < 128 ∧ b i = nI k) ∧ ∀ i, len ≤ i → b i = -1
/-- the class's and the model's text -/
def CX (q : Nat) (μ : Mem) (b : Nat → Int32) (len : Nat) : Prop := BY b len ∧ μ q 1 = nI len ∧ ∀ i, i < len → μ (q + 1) i = b i
def MX (q : Nat) (μ : Mem) (b : Nat → Int32) (len : Nat) : Prop := BY b len ∧ μ q 5 = nI len ∧ ∀ i, i < len → μ (q + 4) i = b i
theorem CX.fr (h : CX q μ b len) (e1 : μ' q 1 = μ q 1) (e2 : μ' (q + 1) = μ (q + 1)) : CX q μ' b len := ⟨h.1, e1.trans h.2.1, fun i hi => by rw [e2]; exact h.2.2 i hi⟩
theorem MX.fr (h : MX q μ b len) (e1 : μ' q 5 = μ q 5) (e2 : μ' (q + 4) = μ (q + 4)) : MX q μ' b len := ⟨h.1, e1.trans h.2.1, fun i hi => by rw [e2]; exact h.2.2 i hi⟩
theorem CX.m2 (h : CX q μ b len) {w : Nat} (hw : w ≠ 1) : CX q (mst μ q w x) b len := h.fr (by rw [mst_eq, upd_ne hw.symm]) (mst_ne (by omega))
theorem MX.m9 (h : MX q μ b len) {w : Nat} (hw : w ≠ 5) : MX q (mst μ q w x) b len := h.fr (by rw [mst_eq, upd_ne hw.symm]) (mst_ne (by omega))
theorem mst_self : mst μ q k (μ q k) = μ := by
  funext z
  unfold mst
  by_cases c1 : z = q
  · rw [if_pos c1, c1]
    funext y
    by_cases c2 : y = k
    · rw [c2, upd_eq]
    · rw [upd_ne c2]
  · rw [if_neg c1]
theorem mst_slf (h : μ q k = x) : mst μ q k x = μ := by
  rw [← h]
  exact mst_self
theorem mst_mst {y : Int32} : mst (mst μ q k x) q k y = mst μ q k y := by
  funext z
  by_cases c1 : z = q
  · rw [c1, mst_eq, mst_eq, mst_eq]
    funext w
    by_cases c2 : w = k
    · rw [c2, upd_eq, upd_eq]
    · rw [upd_ne c2, upd_ne c2, upd_ne c2]
  · rw [mst_ne c1, mst_ne c1, mst_ne c1]
theorem mst_com {y : Int32} (h : j ≠ k) : mst (mst μ q j x) q k y = mst (mst μ q k y) q j x := by
  funext z
  by_cases c1 : z = q
  · rw [c1, mst_eq, mst_eq, mst_eq, mst_eq]
    funext w
    by_cases c2 : w = k
    · rw [c2, upd_eq, upd_ne h.symm, upd_eq]
    · by_cases c3 : w = j
      · rw [c3, upd_ne h, upd_eq, upd_eq]
      · rw [upd_ne c2, upd_ne c3, upd_ne c3, upd_ne c2]
  · rw [mst_ne c1, mst_ne c1, mst_ne c1, mst_ne c1]
theorem byteAt_n (h : CX q μ b len) (hi : i < 2 ^ 31) : f_X3_byteAt q (nI i) μ = some (b i) := by
  obtain ⟨⟨h1, h2, h3⟩, h4, h5⟩ := h
  unfold f_X3_byteAt f_X3_byteAt_b28 f_X3_byteAt_b29
  rw [if_neg (nI_nz hi), h4]
  by_cases c1 : len ≤ i
  · rw [if_pos (nI_le c1 hi), h3 i c1]
  · rw [if_neg (nI_ge (by omega) (by omega)), if_neg (nlI (c := 150) 150 i rfl (by omega) (by decide)), rd_n (by omega) (by decide), Option.bind_some, h5 i (by omega)]
theorem here_n (h : MX q μ b len) (h9 : μ q 9 = nI i) (hi : i < 2 ^ 31) : f_X7_here q μ = some (b i) := by
  obtain ⟨⟨h1, h2, h3⟩, h4, h5⟩ := h
  unfold f_X7_here f_X7_here_b24
  rw [h4, h9]
  by_cases c1 : len ≤ i
  · rw [if_pos (nI_le c1 hi), h3 i c1]
  · rw [if_neg (nI_ge (by omega) (by omega)), rd_n (by omega) (by decide), Option.bind_some, h5 i (by omega)]
def isL (v : Int32) : Bool := decide (97 ≤ v) && decide (v ≤ 122)
def isD (v : Int32) : Bool := decide (48 ≤ v) && decide (v ≤ 57)
theorem isLetter_n : f_X3_isLetter v = some (if isL v then 1 else 0) := by
  unfold f_X3_isLetter isL
  by_cases c1 : v < 97
  · rw [if_pos c1, decide_eq_false (Int32.not_le.mpr c1)]
    rfl
  · by_cases c2 : 122 < v
    · rw [if_neg c1, if_pos c2, decide_eq_false (Int32.not_le.mpr c2), Bool.and_false]
      rfl
    · rw [if_neg c1, if_neg c2, decide_eq_true (Int32.not_lt.mp c1), decide_eq_true (Int32.not_lt.mp c2)]
      rfl
theorem isDigit_n : f_X3_isDigit v = some (if isD v then 1 else 0) := by
  unfold f_X3_isDigit isD
  by_cases c1 : v < 48
  · rw [if_pos c1, decide_eq_false (Int32.not_le.mpr c1)]
    rfl
  · by_cases c2 : 57 < v
    · rw [if_neg c1, if_pos c2, decide_eq_false (Int32.not_le.mpr c2), Bool.and_false]
      rfl
    · rw [if_neg c1, if_neg c2, decide_eq_true (Int32.not_lt.mp c1), decide_eq_true (Int32.not_lt.mp c2)]
      rfl
theorem inL_n : f_X7_in v 97 122 = some (if isL v then 1 else 0) := by
  unfold f_X7_in isL
  by_cases c1 : v < 97
  · rw [if_pos c1, decide_eq_false (Int32.not_le.mpr c1)]
    rfl
  · by_cases c2 : 122 < v
    · rw [if_neg c1, if_pos c2, decide_eq_false (Int32.not_le.mpr c2), Bool.and_false]
      rfl
    · rw [if_neg c1, if_neg c2, decide_eq_true (Int32.not_lt.mp c1), decide_eq_true (Int32.not_lt.mp c2)]
      rfl
theorem inD_n : f_X7_in v 48 57 = some (if isD v then 1 else 0) := by
  unfold f_X7_in isD
  by_cases c1 : v < 48
  · rw [if_pos c1, decide_eq_false (Int32.not_le.mpr c1)]
    rfl
  · by_cases c2 : 57 < v
    · rw [if_neg c1, if_pos c2, decide_eq_false (Int32.not_le.mpr c2), Bool.and_false]
      rfl
    · rw [if_neg c1, if_neg c2, decide_eq_true (Int32.not_lt.mp c1), decide_eq_true (Int32.not_lt.mp c2)]
      rfl
theorem isL_neg : isL (-1) = false := by decide
theorem isD_neg : isD (-1) = false := by decide
/-- from i on, at most n steps, while P holds -/
def wl (P : Int32 → Bool) (b : Nat → Int32) : Nat → Nat → Nat
  | 0, i => i
  | n + 1, i => if P (b i) then wl P b n (i + 1) else i
theorem wl_s {P : Int32 → Bool} (n i : Nat) : wl P b (n + 1) i = if P (b i) then wl P b n (i + 1) else i := rfl
theorem wl_ge {P : Int32 → Bool} : ∀ (n i : Nat), i ≤ wl P b n i
  | 0, _ => Nat.le_refl _
  | n + 1, i => by
    rw [wl_s]
    split
    · have := wl_ge (P := P) n (i + 1)
      omega
    · exact Nat.le_refl _
theorem wl_le {P : Int32 → Bool} (hB : BY b len) (hP : P (-1) = false) : ∀ (n i : Nat), i ≤ len → wl P b n i ≤ len
  | 0, _, h => h
  | n + 1, i, h => by
    rw [wl_s]
    split
    · rename_i c1
      refine wl_le hB hP n (i + 1) ?_
      by_cases c2 : len ≤ i
      · rw [hB.2.2 i c2, hP] at c1
        cases c1
      · omega
    · exact h
theorem wl_end {P : Int32 → Bool} (hB : BY b len) (hP : P (-1) = false) : ∀ (n i : Nat), len ≤ i + n → P (b (wl P b n i)) = false
  | 0, i, h => by
    show P (b i) = false
    rw [hB.2.2 i (by omega), hP]
  | n + 1, i, h => by
    rw [wl_s]
    split
    · exact wl_end hB hP n (i + 1) (by omega)
    · rename_i c1
      exact eq_false_of_ne_true c1
theorem wl_all {P : Int32 → Bool} : ∀ (n i k : Nat), i ≤ k → k < wl P b n i → P (b k) = true
  | 0, i, k, h1, h2 => absurd h2 (by show ¬ k < i; omega)
  | n + 1, i, k, h1, h2 => by
    rw [wl_s] at h2
    split at h2
    · rename_i c1
      by_cases c2 : k = i
      · rw [c2]
        exact c1
      · exact wl_all n (i + 1) k (by omega) h2
    · omega
def isS (v : Int32) : Bool := decide (v = 32)
theorem isS_neg : isS (-1) = false := by decide
theorem isS_if {α : Type} {x y : α} : (if v = 32 then x else y) = if isS v then x else y := by
  unfold isS
  by_cases c : v = 32
  · rw [if_pos c, if_pos (decide_eq_true c)]
  · rw [if_neg c, if_neg (fun z => c (of_decide_eq_true z))]
def SK (b : Nat → Int32) (i : Nat) : Nat := wl isS b 150 i
def SL (b : Nat → Int32) (i : Nat) : Nat := wl isL b 150 i
theorem skip_b0 : ∀ (n i fu : Nat) (μ : Mem), CX q μ b len → μ q 2 = nI i → len ≤ i + n → n < fu → i < 1000 → f_X3_skipSpaces_b0 q fu μ = some (mst μ q 2 (nI (wl isS b n i))) := by
  intro n
  induction n with
  | zero =>
    intro i fu μ h h2 hl hf hi
    obtain ⟨fu, rfl⟩ : ∃ z, fu = z + 1 := ⟨fu - 1, by omega⟩
    rw [f_X3_skipSpaces_b0, h.2.1, h2, if_pos (nI_le (by omega) (by omega))]
    show some μ = some (mst μ q 2 (nI i))
    rw [mst_slf h2]
  | succ n ih =>
    intro i fu μ h h2 hl hf hi
    obtain ⟨fu, rfl⟩ : ∃ z, fu = z + 1 := ⟨fu - 1, by omega⟩
    have hB := h.1.1
    rw [f_X3_skipSpaces_b0, h.2.1, h2, wl_s]
    unfold f_X3_skipSpaces_b37
    by_cases c1 : len ≤ i
    · rw [if_pos (nI_le c1 (by omega)), if_neg (show ¬ isS (b i) = true by rw [h.1.2.2 i c1]; decide), mst_slf h2]
    · rw [if_neg (nI_ge (by omega) (by omega)), byteAt_n h (by omega), Option.bind_some, isS_if]
      by_cases c2 : isS (b i) = true
      · rw [if_pos c2, if_pos c2, pf_e, Option.bind_some, nI_1, ih (i + 1) fu _ (h.m2 (by decide)) (by rw [mst_eq, upd_eq]) (by omega) (by omega) (by omega), mst_mst]
      · rw [if_neg c2, if_neg c2, mst_slf h2]
theorem skip_n (h : CX q μ b len) (h2 : μ q 2 = nI i) (hi : i < 1000) : f_X3_skipSpaces q μ = some (mst μ q 2 (nI (SK b i))) := skip_b0 150 i FU μ h h2 (by have := h.1.1; omega) (by decide) hi
theorem letters_b0 : ∀ (n i fu : Nat) (μ : Mem), CX q μ b len → μ q 2 = nI i → len ≤ i + n → n < fu → i < 1000 → f_X3_skipLetters_b0 q fu μ = some (mst μ q 2 (nI (wl isL b n i))) := by
  intro n
  induction n with
  | zero =>
    intro i fu μ h h2 hl hf hi
    obtain ⟨fu, rfl⟩ : ∃ z, fu = z + 1 := ⟨fu - 1, by omega⟩
    rw [f_X3_skipLetters_b0, h.2.1, h2, if_pos (nI_le (by omega) (by omega))]
    show some μ = some (mst μ q 2 (nI i))
    rw [mst_slf h2]
  | succ n ih =>
    intro i fu μ h h2 hl hf hi
    obtain ⟨fu, rfl⟩ : ∃ z, fu = z + 1 := ⟨fu - 1, by omega⟩
    have hB := h.1.1
    rw [f_X3_skipLetters_b0, h.2.1, h2, wl_s]
    unfold f_X3_skipLetters_b38
    by_cases c1 : len ≤ i
    · rw [if_pos (nI_le c1 (by omega)), if_neg (show ¬ isL (b i) = true by rw [h.1.2.2 i c1]; decide), mst_slf h2]
    · rw [if_neg (nI_ge (by omega) (by omega)), byteAt_n h (by omega), Option.bind_some, isLetter_n, Option.bind_some, ifz]
      by_cases c2 : isL (b i) = true
      · rw [c2]
        show (pf μ q 2 (nI i + 1)).bind _ = _
        rw [pf_e, Option.bind_some, nI_1, ih (i + 1) fu _ (h.m2 (by decide)) (by rw [mst_eq, upd_eq]) (by omega) (by omega) (by omega), mst_mst]
        rfl
      · rw [eq_false_of_ne_true c2]
        show some μ = some (mst μ q 2 (nI i))
        rw [mst_slf h2]
theorem letters_n (h : CX q μ b len) (h2 : μ q 2 = nI i) (hi : i < 1000) : f_X3_skipLetters q μ = some (mst μ q 2 (nI (SL b i))) := letters_b0 150 i FU μ h h2 (by have := h.1.1; omega) (by decide) hi
theorem spaces_b0 : ∀ (n i fu : Nat) (μ : Mem), MX q μ b len → μ q 9 = nI i → len ≤ i + n → n < fu → i < 1000 → f_X7_spaces_b0 q fu μ = some (mst μ q 9 (nI (wl isS b n i))) := by
  intro n
  induction n with
  | zero =>
    intro i fu μ h h2 hl hf hi
    obtain ⟨fu, rfl⟩ : ∃ z, fu = z + 1 := ⟨fu - 1, by omega⟩
    rw [f_X7_spaces_b0, here_n h h2 (by omega), Option.bind_some, h.1.2.2 i (by omega), if_neg (by decide)]
    show some μ = some (mst μ q 9 (nI i))
    rw [mst_slf h2]
  | succ n ih =>
    intro i fu μ h h2 hl hf hi
    obtain ⟨fu, rfl⟩ : ∃ z, fu = z + 1 := ⟨fu - 1, by omega⟩
    rw [f_X7_spaces_b0, here_n h h2 (by omega), Option.bind_some, isS_if, wl_s]
    by_cases c2 : isS (b i) = true
    · have hlt : i < 150 := by
        by_cases c3 : len ≤ i
        · rw [h.1.2.2 i c3] at c2
          exact absurd c2 (by decide)
        · have := h.1.1
          omega
      rw [if_pos c2, if_pos c2, pf_e, Option.bind_some, h2, nI_1, ih (i + 1) fu _ (h.m9 (by decide)) (by rw [mst_eq, upd_eq]) (by omega) (by omega) (by omega), mst_mst]
    · rw [if_neg c2, if_neg c2, mst_slf h2]
theorem spaces_n (h : MX q μ b len) (h2 : μ q 9 = nI i) (hi : i < 1000) : f_X7_spaces q μ = some (mst μ q 9 (nI (SK b i))) := spaces_b0 150 i FU μ h h2 (by have := h.1.1; omega) (by decide) hi
-- words
def mt (b : Nat → Int32) (i e c : Nat) : Bool := decide (wlen.getD c 0 = e - i) && (sr (fun j => !decide (wch c j = b (i + j))) (wlen.getD c 0) 0).isNone
def cmdN (b : Nat → Int32) (i e : Nat) : Nat := match sr (mt b i e) 7 0 with
  | none => 0
  | some c => c + 1
theorem isWord_b17 (h : CX q μ b len) (hw : wlen.getD c 0 < 100) (hi : i < 1000) : ∀ (n k fu : Nat), k + n = wlen.getD c 0 → n < fu → f_X3_isWord_b17 q c fu (nI i) (nI k) μ = some (if (sr (fun j => !decide (wch c j = b (i + j))) n k).isNone then 1 else 0) := by
  intro n
  induction n with
  | zero =>
    intro k fu hk hf
    obtain ⟨fu, rfl⟩ : ∃ z, fu = z + 1 := ⟨fu - 1, by omega⟩
    rw [f_X3_isWord_b17, if_pos (nI_le (by omega) (by omega))]
    rfl
  | succ n ih =>
    intro k fu hk hf
    obtain ⟨fu, rfl⟩ : ∃ z, fu = z + 1 := ⟨fu - 1, by omega⟩
    rw [f_X3_isWord_b17, if_neg (nI_ge (by omega) (by omega)), rd_n (by omega) (by omega), Option.bind_some, nI_add, byteAt_n h (by omega), Option.bind_some, nI_1, ih (k + 1) fu (by omega) (by omega)]
    show _ = some (if (if (!decide (wch c k = b (i + k))) = true then some k else sr _ n (k + 1)).isNone = true then 1 else 0)
    by_cases c1 : wch c k = b (i + k)
    · rw [if_pos c1, if_neg (show ¬ (!decide (wch c k = b (i + k))) = true by rw [decide_eq_true c1]; decide)]
    · rw [if_neg c1, if_pos (show (!decide (wch c k = b (i + k))) = true by rw [decide_eq_false c1]; rfl)]
      rfl
theorem wlen_lt {c : Nat} : wlen.getD c 0 < 100 := by
  rcases Nat.lt_or_ge c 7 with h | h
  · rcases (show c = 0 ∨ c = 1 ∨ c = 2 ∨ c = 3 ∨ c = 4 ∨ c = 5 ∨ c = 6 by omega) with rfl | rfl | rfl | rfl | rfl | rfl | rfl <;> decide
  · obtain ⟨m, rfl⟩ : ∃ m, c = m + 7 := ⟨c - 7, by omega⟩
    exact (show (0 : Nat) < 100 by decide)
theorem isWord_n (h : CX q μ b len) (h2 : μ q 2 = nI e) (hie : i ≤ e) (he : e < 1000) : f_X3_isWord q c (nI i) μ = some (if mt b i e c then 1 else 0) := by
  have hw := wlen_lt (c := c)
  unfold f_X3_isWord mt
  rw [h2, nI_sub hie]
  by_cases c1 : wlen.getD c 0 = e - i
  · have e1 := isWord_b17 (q := q) (c := c) (i := i) h hw (by omega) (wlen.getD c 0) 0 FU (by omega) (by unfold FU; omega)
    rw [nI_0] at e1
    rw [if_pos (congrArg nI c1), decide_eq_true c1, Bool.true_and, e1]
  · rw [if_neg (fun z => c1 (nI_inj (by omega) (by omega) z)), decide_eq_false c1, Bool.false_and]
    rfl
theorem named_b10 (h : CX q μ b len) (h2 : μ q 2 = nI e) (hie : i ≤ e) (he : e < 1000) : ∀ (n k fu : Nat), k + n = 7 → n < fu → f_X3_commandNamed_b10 q fu k (nI i) μ = some (match sr (mt b i e) n k with | none => 0 | some c => nI (c + 1)) := by
  intro n
  induction n with
  | zero =>
    intro k fu hk hf
    obtain ⟨fu, rfl⟩ : ∃ z, fu = z + 1 := ⟨fu - 1, by omega⟩
    rw [f_X3_commandNamed_b10, if_pos (by omega)]
    rfl
  | succ n ih =>
    intro k fu hk hf
    obtain ⟨fu, rfl⟩ : ∃ z, fu = z + 1 := ⟨fu - 1, by omega⟩
    rw [f_X3_commandNamed_b10, if_neg (by omega), isWord_n h h2 hie he, Option.bind_some, ifz, ih (k + 1) fu (by omega) (by omega)]
    show _ = some (match (if mt b i e k = true then some k else sr (mt b i e) n (k + 1)) with | none => 0 | some c => nI (c + 1))
    by_cases c1 : mt b i e k = true
    · rw [if_pos c1, if_pos c1]
    · rw [if_neg c1, if_neg c1]
theorem named_n (h : CX q μ b len) (h2 : μ q 2 = nI e) (hie : i ≤ e) (he : e < 1000) : f_X3_commandNamed q (nI i) μ = some (nI (cmdN b i e)) := by
  unfold f_X3_commandNamed
  rw [named_b10 h h2 hie he 7 0 FU (by omega) (by decide)]
  unfold cmdN
  cases sr (mt b i e) 7 0 <;> rfl
theorem cmdN_lt : cmdN b i e ≤ 7 := by
  unfold cmdN
  cases z : sr (mt b i e) 7 0 with
  | none => exact Nat.zero_le _
  | some c =>
    have := (sr_some _ _ _ z).2.1
    show c + 1 ≤ 7
    omega
-- the model's letters
def dgt (b : Nat → Int32) (i k : Nat) : Nat := (b (i + k)).toNatClampNeg - 96
def Lf (b : Nat → Int32) (i : Nat) : Nat → Nat
  | 0 => 0
  | k + 1 => if k < 6 then 32 * Lf b i k + dgt b i k else 0
theorem Lf_s (k : Nat) : Lf b i (k + 1) = if k < 6 then 32 * Lf b i k + dgt b i k else 0 := rfl
theorem letter_n (hB : BY b len) (h : isL (b i) = true) : i < len ∧ ∃ k, 97 ≤ k ∧ k ≤ 122 ∧ b i = nI k := by
  have hi : i < len := by
    by_cases c : len ≤ i
    · rw [hB.2.2 i c] at h
      exact absurd h (by decide)
    · omega
  obtain ⟨k, hk, e⟩ := hB.2.1 i hi
  rw [e] at h
  unfold isL at h
  have h1 := of_decide_eq_true (Bool.and_eq_true_iff.mp h).1
  have h2 := of_decide_eq_true (Bool.and_eq_true_iff.mp h).2
  have h3 : 97 ≤ k := (nI_leI (by decide) (by omega)).mp (show nI 97 ≤ nI k from h1)
  have h4 : k ≤ 122 := (nI_leI (by omega) (by decide)).mp (show nI k ≤ nI 122 from h2)
  exact ⟨hi, k, h3, h4, e⟩
theorem dgt_b (hB : BY b len) (h : isL (b (i + k)) = true) : 1 ≤ dgt b i k ∧ dgt b i k ≤ 26 ∧ b (i + k) = nI (96 + dgt b i k) := by
  obtain ⟨h0, y, h1, h2, h3⟩ := letter_n hB h
  have e : dgt b i k = y - 96 := by
    unfold dgt
    rw [h3, nI_clamp (by omega)]
  rw [e, h3]
  exact ⟨by omega, by omega, by rw [show 96 + (y - 96) = y by omega]⟩
theorem Lf_lt (hd : ∀ k, k < n → 1 ≤ dgt b i k ∧ dgt b i k ≤ 26) : ∀ k, k ≤ n → Lf b i k < 2 ^ (5 * k)
  | 0, _ => by show 0 < 2 ^ 0; decide
  | k + 1, h => by
    have q1 := Lf_lt hd k (by omega)
    have q2 := hd k (by omega)
    have q3 : (2 : Nat) ^ (5 * (k + 1)) = 32 * 2 ^ (5 * k) := by
      rw [show 5 * (k + 1) = 5 * k + 5 by omega, Nat.pow_add]
      omega
    rw [Lf_s, q3]
    split <;> omega
theorem Lf_31 (hd : ∀ k, k < n → 1 ≤ dgt b i k ∧ dgt b i k ≤ 26) : Lf b i n < 2 ^ 31 := by
  rcases Nat.lt_or_ge n 7 with h | h
  · have q1 := Lf_lt hd n (Nat.le_refl _)
    have q2 : (2 : Nat) ^ (5 * n) ≤ 2 ^ 30 := Nat.pow_le_pow_right (by decide) (by omega)
    have q3 : (2 : Nat) ^ 30 < 2 ^ 31 := by decide
    omega
  · obtain ⟨m, rfl⟩ : ∃ m, n = m + 1 := ⟨n - 1, by omega⟩
    rw [Lf_s, if_neg (by omega)]
    decide
theorem stepL {C : Nat} (h : Lf b i n = C) (hC : 0 < C) (hd : ∀ k, k < n → 1 ≤ dgt b i k ∧ dgt b i k ≤ 26) : ∃ m, n = m + 1 ∧ m < 6 ∧ dgt b i m = C % 32 ∧ Lf b i m = C / 32 := by
  cases n with
  | zero =>
    have e : Lf b i 0 = 0 := rfl
    omega
  | succ m =>
    rw [Lf_s] at h
    have q2 := hd m (by omega)
    split at h
    · rename_i c6
      exact ⟨m, rfl, c6, by omega, by omega⟩
    · omega
theorem stopL (h : Lf b i n = 0) (hn : n < 7) (hd : ∀ k, k < n → 1 ≤ dgt b i k ∧ dgt b i k ≤ 26) : n = 0 := by
  cases n with
  | zero => rfl
  | succ m =>
    rw [Lf_s, if_pos (by omega)] at h
    have q2 := hd m (by omega)
    omega
theorem srf {P : Nat → Bool} : ∀ (n k : Nat), (∀ j, k ≤ j → j < k + n → P j = false) → sr P n k = none
  | 0, _, _ => rfl
  | n + 1, k, h => by
    show (if P k then some k else sr P n (k + 1)) = none
    rw [if_neg (by rw [h k (Nat.le_refl _) (by omega)]; decide)]
    exact srf n (k + 1) (fun j h1 h2 => h j (by omega) (by omega))
theorem mt_0 (hd : ∀ k, k < e - i → 1 ≤ dgt b i k ∧ dgt b i k ≤ 26) (hb : ∀ k, k < e - i → b (i + k) = nI (96 + dgt b i k)) : mt b i e 0 = true ↔ Lf b i (e - i) = 2268462 := by
  have hw : wlen.getD 0 0 = 5 := rfl
  unfold mt
  rw [hw]
  constructor
  · intro h
    have h1 := of_decide_eq_true (Bool.and_eq_true_iff.mp h).1
    have h2 := Option.isNone_iff_eq_none.mp (Bool.and_eq_true_iff.mp h).2
    have g : ∀ j, j < 5 → wch 0 j = b (i + j) := fun j hj => by
      have z := sr_none _ _ h2 j (by omega) (by omega)
      by_cases y : wch 0 j = b (i + j)
      · exact y
      · rw [decide_eq_false y] at z
        cases z
    have hh0 : dgt b i 0 = 2 := by
      have z := g 0 (by decide)
      unfold dgt
      rw [← z]
      rfl
    have hh1 : dgt b i 1 = 5 := by
      have z := g 1 (by decide)
      unfold dgt
      rw [← z]
      rfl
    have hh2 : dgt b i 2 = 7 := by
      have z := g 2 (by decide)
      unfold dgt
      rw [← z]
      rfl
    have hh3 : dgt b i 3 = 9 := by
      have z := g 3 (by decide)
      unfold dgt
      rw [← z]
      rfl
    have hh4 : dgt b i 4 = 14 := by
      have z := g 4 (by decide)
      unfold dgt
      rw [← z]
      rfl
    rw [← h1]
    simp [Lf, hh0, hh1, hh2, hh3, hh4]
  · intro h
    generalize hz : e - i = n0 at h hd hb ⊢
    obtain ⟨n1, r1, l1, t1, s1⟩ := stepL (C := 2268462) h (by decide) (fun k hk => hd k (by omega))
    obtain ⟨n2, r2, l2, t2, s2⟩ := stepL (C := 70889) s1 (by decide) (fun k hk => hd k (by omega))
    obtain ⟨n3, r3, l3, t3, s3⟩ := stepL (C := 2215) s2 (by decide) (fun k hk => hd k (by omega))
    obtain ⟨n4, r4, l4, t4, s4⟩ := stepL (C := 69) s3 (by decide) (fun k hk => hd k (by omega))
    obtain ⟨n5, r5, l5, t5, s5⟩ := stepL (C := 2) s4 (by decide) (fun k hk => hd k (by omega))
    have z0 : n5 = 0 := stopL s5 (by omega) (fun k hk => hd k (by omega))
    have e0 : n0 = 5 := by omega
    have y0 : b (i + 0) = nI 98 := by
      have u : n5 = 0 := by omega
      rw [u] at t5
      have z := hb 0 (by omega)
      rw [t5] at z
      exact z
    have y1 : b (i + 1) = nI 101 := by
      have u : n4 = 1 := by omega
      rw [u] at t4
      have z := hb 1 (by omega)
      rw [t4] at z
      exact z
    have y2 : b (i + 2) = nI 103 := by
      have u : n3 = 2 := by omega
      rw [u] at t3
      have z := hb 2 (by omega)
      rw [t3] at z
      exact z
    have y3 : b (i + 3) = nI 105 := by
      have u : n2 = 3 := by omega
      rw [u] at t2
      have z := hb 3 (by omega)
      rw [t2] at z
      exact z
    have y4 : b (i + 4) = nI 110 := by
      have u : n1 = 4 := by omega
      rw [u] at t1
      have z := hb 4 (by omega)
      rw [t1] at z
      exact z
    rw [Bool.and_eq_true_iff]
    refine ⟨decide_eq_true e0.symm, Option.isNone_iff_eq_none.mpr (srf _ _ (fun j h1 h2 => ?_))⟩
    rcases (show j = 0 ∨ j = 1 ∨ j = 2 ∨ j = 3 ∨ j = 4 by omega) with rfl | rfl | rfl | rfl | rfl
    · rw [y0]
      decide
    · rw [y1]
      decide
    · rw [y2]
      decide
    · rw [y3]
      decide
    · rw [y4]
      decide
theorem mt_1 (hd : ∀ k, k < e - i → 1 ≤ dgt b i k ∧ dgt b i k ≤ 26) (hb : ∀ k, k < e - i → b (i + k) = nI (96 + dgt b i k)) : mt b i e 1 = true ↔ Lf b i (e - i) = 17076 := by
  have hw : wlen.getD 1 0 = 3 := rfl
  unfold mt
  rw [hw]
  constructor
  · intro h
    have h1 := of_decide_eq_true (Bool.and_eq_true_iff.mp h).1
    have h2 := Option.isNone_iff_eq_none.mp (Bool.and_eq_true_iff.mp h).2
    have g : ∀ j, j < 3 → wch 1 j = b (i + j) := fun j hj => by
      have z := sr_none _ _ h2 j (by omega) (by omega)
      by_cases y : wch 1 j = b (i + j)
      · exact y
      · rw [decide_eq_false y] at z
        cases z
    have hh0 : dgt b i 0 = 16 := by
      have z := g 0 (by decide)
      unfold dgt
      rw [← z]
      rfl
    have hh1 : dgt b i 1 = 21 := by
      have z := g 1 (by decide)
      unfold dgt
      rw [← z]
      rfl
    have hh2 : dgt b i 2 = 20 := by
      have z := g 2 (by decide)
      unfold dgt
      rw [← z]
      rfl
    rw [← h1]
    simp [Lf, hh0, hh1, hh2]
  · intro h
    generalize hz : e - i = n0 at h hd hb ⊢
    obtain ⟨n1, r1, l1, t1, s1⟩ := stepL (C := 17076) h (by decide) (fun k hk => hd k (by omega))
    obtain ⟨n2, r2, l2, t2, s2⟩ := stepL (C := 533) s1 (by decide) (fun k hk => hd k (by omega))
    obtain ⟨n3, r3, l3, t3, s3⟩ := stepL (C := 16) s2 (by decide) (fun k hk => hd k (by omega))
    have z0 : n3 = 0 := stopL s3 (by omega) (fun k hk => hd k (by omega))
    have e0 : n0 = 3 := by omega
    have y0 : b (i + 0) = nI 112 := by
      have u : n3 = 0 := by omega
      rw [u] at t3
      have z := hb 0 (by omega)
      rw [t3] at z
      exact z
    have y1 : b (i + 1) = nI 117 := by
      have u : n2 = 1 := by omega
      rw [u] at t2
      have z := hb 1 (by omega)
      rw [t2] at z
      exact z
    have y2 : b (i + 2) = nI 116 := by
      have u : n1 = 2 := by omega
      rw [u] at t1
      have z := hb 2 (by omega)
      rw [t1] at z
      exact z
    rw [Bool.and_eq_true_iff]
    refine ⟨decide_eq_true e0.symm, Option.isNone_iff_eq_none.mpr (srf _ _ (fun j h1 h2 => ?_))⟩
    rcases (show j = 0 ∨ j = 1 ∨ j = 2 by omega) with rfl | rfl | rfl
    · rw [y0]
      decide
    · rw [y1]
      decide
    · rw [y2]
      decide
theorem mt_2 (hd : ∀ k, k < e - i → 1 ≤ dgt b i k ∧ dgt b i k ≤ 26) (hb : ∀ k, k < e - i → b (i + k) = nI (96 + dgt b i k)) : mt b i e 2 = true ↔ Lf b i (e - i) = 150000 := by
  have hw : wlen.getD 2 0 = 4 := rfl
  unfold mt
  rw [hw]
  constructor
  · intro h
    have h1 := of_decide_eq_true (Bool.and_eq_true_iff.mp h).1
    have h2 := Option.isNone_iff_eq_none.mp (Bool.and_eq_true_iff.mp h).2
    have g : ∀ j, j < 4 → wch 2 j = b (i + j) := fun j hj => by
      have z := sr_none _ _ h2 j (by omega) (by omega)
      by_cases y : wch 2 j = b (i + j)
      · exact y
      · rw [decide_eq_false y] at z
        cases z
    have hh0 : dgt b i 0 = 4 := by
      have z := g 0 (by decide)
      unfold dgt
      rw [← z]
      rfl
    have hh1 : dgt b i 1 = 18 := by
      have z := g 1 (by decide)
      unfold dgt
      rw [← z]
      rfl
    have hh2 : dgt b i 2 = 15 := by
      have z := g 2 (by decide)
      unfold dgt
      rw [← z]
      rfl
    have hh3 : dgt b i 3 = 16 := by
      have z := g 3 (by decide)
      unfold dgt
      rw [← z]
      rfl
    rw [← h1]
    simp [Lf, hh0, hh1, hh2, hh3]
  · intro h
    generalize hz : e - i = n0 at h hd hb ⊢
    obtain ⟨n1, r1, l1, t1, s1⟩ := stepL (C := 150000) h (by decide) (fun k hk => hd k (by omega))
    obtain ⟨n2, r2, l2, t2, s2⟩ := stepL (C := 4687) s1 (by decide) (fun k hk => hd k (by omega))
    obtain ⟨n3, r3, l3, t3, s3⟩ := stepL (C := 146) s2 (by decide) (fun k hk => hd k (by omega))
    obtain ⟨n4, r4, l4, t4, s4⟩ := stepL (C := 4) s3 (by decide) (fun k hk => hd k (by omega))
    have z0 : n4 = 0 := stopL s4 (by omega) (fun k hk => hd k (by omega))
    have e0 : n0 = 4 := by omega
    have y0 : b (i + 0) = nI 100 := by
      have u : n4 = 0 := by omega
      rw [u] at t4
      have z := hb 0 (by omega)
      rw [t4] at z
      exact z
    have y1 : b (i + 1) = nI 114 := by
      have u : n3 = 1 := by omega
      rw [u] at t3
      have z := hb 1 (by omega)
      rw [t3] at z
      exact z
    have y2 : b (i + 2) = nI 111 := by
      have u : n2 = 2 := by omega
      rw [u] at t2
      have z := hb 2 (by omega)
      rw [t2] at z
      exact z
    have y3 : b (i + 3) = nI 112 := by
      have u : n1 = 3 := by omega
      rw [u] at t1
      have z := hb 3 (by omega)
      rw [t1] at z
      exact z
    rw [Bool.and_eq_true_iff]
    refine ⟨decide_eq_true e0.symm, Option.isNone_iff_eq_none.mpr (srf _ _ (fun j h1 h2 => ?_))⟩
    rcases (show j = 0 ∨ j = 1 ∨ j = 2 ∨ j = 3 by omega) with rfl | rfl | rfl | rfl
    · rw [y0]
      decide
    · rw [y1]
      decide
    · rw [y2]
      decide
    · rw [y3]
      decide
theorem mt_3 (hd : ∀ k, k < e - i → 1 ≤ dgt b i k ∧ dgt b i k ≤ 26) (hb : ∀ k, k < e - i → b (i + k) = nI (96 + dgt b i k)) : mt b i e 3 = true ↔ Lf b i (e - i) = 116831540 := by
  have hw : wlen.getD 3 0 = 6 := rfl
  unfold mt
  rw [hw]
  constructor
  · intro h
    have h1 := of_decide_eq_true (Bool.and_eq_true_iff.mp h).1
    have h2 := Option.isNone_iff_eq_none.mp (Bool.and_eq_true_iff.mp h).2
    have g : ∀ j, j < 6 → wch 3 j = b (i + j) := fun j hj => by
      have z := sr_none _ _ h2 j (by omega) (by omega)
      by_cases y : wch 3 j = b (i + j)
      · exact y
      · rw [decide_eq_false y] at z
        cases z
    have hh0 : dgt b i 0 = 3 := by
      have z := g 0 (by decide)
      unfold dgt
      rw [← z]
      rfl
    have hh1 : dgt b i 1 = 15 := by
      have z := g 1 (by decide)
      unfold dgt
      rw [← z]
      rfl
    have hh2 : dgt b i 2 = 13 := by
      have z := g 2 (by decide)
      unfold dgt
      rw [← z]
      rfl
    have hh3 : dgt b i 3 = 13 := by
      have z := g 3 (by decide)
      unfold dgt
      rw [← z]
      rfl
    have hh4 : dgt b i 4 = 9 := by
      have z := g 4 (by decide)
      unfold dgt
      rw [← z]
      rfl
    have hh5 : dgt b i 5 = 20 := by
      have z := g 5 (by decide)
      unfold dgt
      rw [← z]
      rfl
    rw [← h1]
    simp [Lf, hh0, hh1, hh2, hh3, hh4, hh5]
  · intro h
    generalize hz : e - i = n0 at h hd hb ⊢
    obtain ⟨n1, r1, l1, t1, s1⟩ := stepL (C := 116831540) h (by decide) (fun k hk => hd k (by omega))
    obtain ⟨n2, r2, l2, t2, s2⟩ := stepL (C := 3650985) s1 (by decide) (fun k hk => hd k (by omega))
    obtain ⟨n3, r3, l3, t3, s3⟩ := stepL (C := 114093) s2 (by decide) (fun k hk => hd k (by omega))
    obtain ⟨n4, r4, l4, t4, s4⟩ := stepL (C := 3565) s3 (by decide) (fun k hk => hd k (by omega))
    obtain ⟨n5, r5, l5, t5, s5⟩ := stepL (C := 111) s4 (by decide) (fun k hk => hd k (by omega))
    obtain ⟨n6, r6, l6, t6, s6⟩ := stepL (C := 3) s5 (by decide) (fun k hk => hd k (by omega))
    have z0 : n6 = 0 := stopL s6 (by omega) (fun k hk => hd k (by omega))
    have e0 : n0 = 6 := by omega
    have y0 : b (i + 0) = nI 99 := by
      have u : n6 = 0 := by omega
      rw [u] at t6
      have z := hb 0 (by omega)
      rw [t6] at z
      exact z
    have y1 : b (i + 1) = nI 111 := by
      have u : n5 = 1 := by omega
      rw [u] at t5
      have z := hb 1 (by omega)
      rw [t5] at z
      exact z
    have y2 : b (i + 2) = nI 109 := by
      have u : n4 = 2 := by omega
      rw [u] at t4
      have z := hb 2 (by omega)
      rw [t4] at z
      exact z
    have y3 : b (i + 3) = nI 109 := by
      have u : n3 = 3 := by omega
      rw [u] at t3
      have z := hb 3 (by omega)
      rw [t3] at z
      exact z
    have y4 : b (i + 4) = nI 105 := by
      have u : n2 = 4 := by omega
      rw [u] at t2
      have z := hb 4 (by omega)
      rw [t2] at z
      exact z
    have y5 : b (i + 5) = nI 116 := by
      have u : n1 = 5 := by omega
      rw [u] at t1
      have z := hb 5 (by omega)
      rw [t1] at z
      exact z
    rw [Bool.and_eq_true_iff]
    refine ⟨decide_eq_true e0.symm, Option.isNone_iff_eq_none.mpr (srf _ _ (fun j h1 h2 => ?_))⟩
    rcases (show j = 0 ∨ j = 1 ∨ j = 2 ∨ j = 3 ∨ j = 4 ∨ j = 5 by omega) with rfl | rfl | rfl | rfl | rfl | rfl
    · rw [y0]
      decide
    · rw [y1]
      decide
    · rw [y2]
      decide
    · rw [y3]
      decide
    · rw [y4]
      decide
    · rw [y5]
      decide
theorem mt_4 (hd : ∀ k, k < e - i → 1 ≤ dgt b i k ∧ dgt b i k ≤ 26) (hb : ∀ k, k < e - i → b (i + k) = nI (96 + dgt b i k)) : mt b i e 4 = true ↔ Lf b i (e - i) = 1130068 := by
  have hw : wlen.getD 4 0 = 5 := rfl
  unfold mt
  rw [hw]
  constructor
  · intro h
    have h1 := of_decide_eq_true (Bool.and_eq_true_iff.mp h).1
    have h2 := Option.isNone_iff_eq_none.mp (Bool.and_eq_true_iff.mp h).2
    have g : ∀ j, j < 5 → wch 4 j = b (i + j) := fun j hj => by
      have z := sr_none _ _ h2 j (by omega) (by omega)
      by_cases y : wch 4 j = b (i + j)
      · exact y
      · rw [decide_eq_false y] at z
        cases z
    have hh0 : dgt b i 0 = 1 := by
      have z := g 0 (by decide)
      unfold dgt
      rw [← z]
      rfl
    have hh1 : dgt b i 1 = 2 := by
      have z := g 1 (by decide)
      unfold dgt
      rw [← z]
      rfl
    have hh2 : dgt b i 2 = 15 := by
      have z := g 2 (by decide)
      unfold dgt
      rw [← z]
      rfl
    have hh3 : dgt b i 3 = 18 := by
      have z := g 3 (by decide)
      unfold dgt
      rw [← z]
      rfl
    have hh4 : dgt b i 4 = 20 := by
      have z := g 4 (by decide)
      unfold dgt
      rw [← z]
      rfl
    rw [← h1]
    simp [Lf, hh0, hh1, hh2, hh3, hh4]
  · intro h
    generalize hz : e - i = n0 at h hd hb ⊢
    obtain ⟨n1, r1, l1, t1, s1⟩ := stepL (C := 1130068) h (by decide) (fun k hk => hd k (by omega))
    obtain ⟨n2, r2, l2, t2, s2⟩ := stepL (C := 35314) s1 (by decide) (fun k hk => hd k (by omega))
    obtain ⟨n3, r3, l3, t3, s3⟩ := stepL (C := 1103) s2 (by decide) (fun k hk => hd k (by omega))
    obtain ⟨n4, r4, l4, t4, s4⟩ := stepL (C := 34) s3 (by decide) (fun k hk => hd k (by omega))
    obtain ⟨n5, r5, l5, t5, s5⟩ := stepL (C := 1) s4 (by decide) (fun k hk => hd k (by omega))
    have z0 : n5 = 0 := stopL s5 (by omega) (fun k hk => hd k (by omega))
    have e0 : n0 = 5 := by omega
    have y0 : b (i + 0) = nI 97 := by
      have u : n5 = 0 := by omega
      rw [u] at t5
      have z := hb 0 (by omega)
      rw [t5] at z
      exact z
    have y1 : b (i + 1) = nI 98 := by
      have u : n4 = 1 := by omega
      rw [u] at t4
      have z := hb 1 (by omega)
      rw [t4] at z
      exact z
    have y2 : b (i + 2) = nI 111 := by
      have u : n3 = 2 := by omega
      rw [u] at t3
      have z := hb 2 (by omega)
      rw [t3] at z
      exact z
    have y3 : b (i + 3) = nI 114 := by
      have u : n2 = 3 := by omega
      rw [u] at t2
      have z := hb 3 (by omega)
      rw [t2] at z
      exact z
    have y4 : b (i + 4) = nI 116 := by
      have u : n1 = 4 := by omega
      rw [u] at t1
      have z := hb 4 (by omega)
      rw [t1] at z
      exact z
    rw [Bool.and_eq_true_iff]
    refine ⟨decide_eq_true e0.symm, Option.isNone_iff_eq_none.mpr (srf _ _ (fun j h1 h2 => ?_))⟩
    rcases (show j = 0 ∨ j = 1 ∨ j = 2 ∨ j = 3 ∨ j = 4 by omega) with rfl | rfl | rfl | rfl | rfl
    · rw [y0]
      decide
    · rw [y1]
      decide
    · rw [y2]
      decide
    · rw [y3]
      decide
    · rw [y4]
      decide
theorem mt_5 (hd : ∀ k, k < e - i → 1 ≤ dgt b i k ∧ dgt b i k ≤ 26) (hb : ∀ k, k < e - i → b (i + k) = nI (96 + dgt b i k)) : mt b i e 5 = true ↔ Lf b i (e - i) = 508078 := by
  have hw : wlen.getD 5 0 = 4 := rfl
  unfold mt
  rw [hw]
  constructor
  · intro h
    have h1 := of_decide_eq_true (Bool.and_eq_true_iff.mp h).1
    have h2 := Option.isNone_iff_eq_none.mp (Bool.and_eq_true_iff.mp h).2
    have g : ∀ j, j < 4 → wch 5 j = b (i + j) := fun j hj => by
      have z := sr_none _ _ h2 j (by omega) (by omega)
      by_cases y : wch 5 j = b (i + j)
      · exact y
      · rw [decide_eq_false y] at z
        cases z
    have hh0 : dgt b i 0 = 15 := by
      have z := g 0 (by decide)
      unfold dgt
      rw [← z]
      rfl
    have hh1 : dgt b i 1 = 16 := by
      have z := g 1 (by decide)
      unfold dgt
      rw [← z]
      rfl
    have hh2 : dgt b i 2 = 5 := by
      have z := g 2 (by decide)
      unfold dgt
      rw [← z]
      rfl
    have hh3 : dgt b i 3 = 14 := by
      have z := g 3 (by decide)
      unfold dgt
      rw [← z]
      rfl
    rw [← h1]
    simp [Lf, hh0, hh1, hh2, hh3]
  · intro h
    generalize hz : e - i = n0 at h hd hb ⊢
    obtain ⟨n1, r1, l1, t1, s1⟩ := stepL (C := 508078) h (by decide) (fun k hk => hd k (by omega))
    obtain ⟨n2, r2, l2, t2, s2⟩ := stepL (C := 15877) s1 (by decide) (fun k hk => hd k (by omega))
    obtain ⟨n3, r3, l3, t3, s3⟩ := stepL (C := 496) s2 (by decide) (fun k hk => hd k (by omega))
    obtain ⟨n4, r4, l4, t4, s4⟩ := stepL (C := 15) s3 (by decide) (fun k hk => hd k (by omega))
    have z0 : n4 = 0 := stopL s4 (by omega) (fun k hk => hd k (by omega))
    have e0 : n0 = 4 := by omega
    have y0 : b (i + 0) = nI 111 := by
      have u : n4 = 0 := by omega
      rw [u] at t4
      have z := hb 0 (by omega)
      rw [t4] at z
      exact z
    have y1 : b (i + 1) = nI 112 := by
      have u : n3 = 1 := by omega
      rw [u] at t3
      have z := hb 1 (by omega)
      rw [t3] at z
      exact z
    have y2 : b (i + 2) = nI 101 := by
      have u : n2 = 2 := by omega
      rw [u] at t2
      have z := hb 2 (by omega)
      rw [t2] at z
      exact z
    have y3 : b (i + 3) = nI 110 := by
      have u : n1 = 3 := by omega
      rw [u] at t1
      have z := hb 3 (by omega)
      rw [t1] at z
      exact z
    rw [Bool.and_eq_true_iff]
    refine ⟨decide_eq_true e0.symm, Option.isNone_iff_eq_none.mpr (srf _ _ (fun j h1 h2 => ?_))⟩
    rcases (show j = 0 ∨ j = 1 ∨ j = 2 ∨ j = 3 by omega) with rfl | rfl | rfl | rfl
    · rw [y0]
      decide
    · rw [y1]
      decide
    · rw [y2]
      decide
    · rw [y3]
      decide
theorem mt_6 (hd : ∀ k, k < e - i → 1 ≤ dgt b i k ∧ dgt b i k ≤ 26) (hb : ∀ k, k < e - i → b (i + k) = nI (96 + dgt b i k)) : mt b i e 6 = true ↔ Lf b i (e - i) = 3554917 := by
  have hw : wlen.getD 6 0 = 5 := rfl
  unfold mt
  rw [hw]
  constructor
  · intro h
    have h1 := of_decide_eq_true (Bool.and_eq_true_iff.mp h).1
    have h2 := Option.isNone_iff_eq_none.mp (Bool.and_eq_true_iff.mp h).2
    have g : ∀ j, j < 5 → wch 6 j = b (i + j) := fun j hj => by
      have z := sr_none _ _ h2 j (by omega) (by omega)
      by_cases y : wch 6 j = b (i + j)
      · exact y
      · rw [decide_eq_false y] at z
        cases z
    have hh0 : dgt b i 0 = 3 := by
      have z := g 0 (by decide)
      unfold dgt
      rw [← z]
      rfl
    have hh1 : dgt b i 1 = 12 := by
      have z := g 1 (by decide)
      unfold dgt
      rw [← z]
      rfl
    have hh2 : dgt b i 2 = 15 := by
      have z := g 2 (by decide)
      unfold dgt
      rw [← z]
      rfl
    have hh3 : dgt b i 3 = 19 := by
      have z := g 3 (by decide)
      unfold dgt
      rw [← z]
      rfl
    have hh4 : dgt b i 4 = 5 := by
      have z := g 4 (by decide)
      unfold dgt
      rw [← z]
      rfl
    rw [← h1]
    simp [Lf, hh0, hh1, hh2, hh3, hh4]
  · intro h
    generalize hz : e - i = n0 at h hd hb ⊢
    obtain ⟨n1, r1, l1, t1, s1⟩ := stepL (C := 3554917) h (by decide) (fun k hk => hd k (by omega))
    obtain ⟨n2, r2, l2, t2, s2⟩ := stepL (C := 111091) s1 (by decide) (fun k hk => hd k (by omega))
    obtain ⟨n3, r3, l3, t3, s3⟩ := stepL (C := 3471) s2 (by decide) (fun k hk => hd k (by omega))
    obtain ⟨n4, r4, l4, t4, s4⟩ := stepL (C := 108) s3 (by decide) (fun k hk => hd k (by omega))
    obtain ⟨n5, r5, l5, t5, s5⟩ := stepL (C := 3) s4 (by decide) (fun k hk => hd k (by omega))
    have z0 : n5 = 0 := stopL s5 (by omega) (fun k hk => hd k (by omega))
    have e0 : n0 = 5 := by omega
    have y0 : b (i + 0) = nI 99 := by
      have u : n5 = 0 := by omega
      rw [u] at t5
      have z := hb 0 (by omega)
      rw [t5] at z
      exact z
    have y1 : b (i + 1) = nI 108 := by
      have u : n4 = 1 := by omega
      rw [u] at t4
      have z := hb 1 (by omega)
      rw [t4] at z
      exact z
    have y2 : b (i + 2) = nI 111 := by
      have u : n3 = 2 := by omega
      rw [u] at t3
      have z := hb 2 (by omega)
      rw [t3] at z
      exact z
    have y3 : b (i + 3) = nI 115 := by
      have u : n2 = 3 := by omega
      rw [u] at t2
      have z := hb 3 (by omega)
      rw [t2] at z
      exact z
    have y4 : b (i + 4) = nI 101 := by
      have u : n1 = 4 := by omega
      rw [u] at t1
      have z := hb 4 (by omega)
      rw [t1] at z
      exact z
    rw [Bool.and_eq_true_iff]
    refine ⟨decide_eq_true e0.symm, Option.isNone_iff_eq_none.mpr (srf _ _ (fun j h1 h2 => ?_))⟩
    rcases (show j = 0 ∨ j = 1 ∨ j = 2 ∨ j = 3 ∨ j = 4 by omega) with rfl | rfl | rfl | rfl | rfl
    · rw [y0]
      decide
    · rw [y1]
      decide
    · rw [y2]
      decide
    · rw [y3]
      decide
    · rw [y4]
      decide
def mea (L : Nat) : Nat := if L = 2268462 then 1 else if L = 17076 then 2 else if L = 150000 then 3 else if L = 116831540 then 4 else if L = 1130068 then 5 else if L = 508078 then 6 else if L = 3554917 then 7 else 0
theorem sr7 {P : Nat → Bool} : (match sr P 7 0 with | none => 0 | some c => c + 1) = if P 0 = true then 1 else if P 1 = true then 2 else if P 2 = true then 3 else if P 3 = true then 4 else if P 4 = true then 5 else if P 5 = true then 6 else if P 6 = true then 7 else 0 := by
  show (match (if P 0 = true then some 0 else if P 1 = true then some 1 else if P 2 = true then some 2 else if P 3 = true then some 3 else if P 4 = true then some 4 else if P 5 = true then some 5 else if P 6 = true then some 6 else none) with | none => 0 | some c => c + 1) = _
  by_cases c0 : P 0 = true
  · rw [if_pos c0, if_pos c0]
  · rw [if_neg c0, if_neg c0]
    by_cases c1 : P 1 = true
    · rw [if_pos c1, if_pos c1]
    · rw [if_neg c1, if_neg c1]
      by_cases c2 : P 2 = true
      · rw [if_pos c2, if_pos c2]
      · rw [if_neg c2, if_neg c2]
        by_cases c3 : P 3 = true
        · rw [if_pos c3, if_pos c3]
        · rw [if_neg c3, if_neg c3]
          by_cases c4 : P 4 = true
          · rw [if_pos c4, if_pos c4]
          · rw [if_neg c4, if_neg c4]
            by_cases c5 : P 5 = true
            · rw [if_pos c5, if_pos c5]
            · rw [if_neg c5, if_neg c5]
              by_cases c6 : P 6 = true
              · rw [if_pos c6, if_pos c6]
              · rw [if_neg c6, if_neg c6]
theorem cmd_eq (hd : ∀ k, k < e - i → 1 ≤ dgt b i k ∧ dgt b i k ≤ 26) (hb : ∀ k, k < e - i → b (i + k) = nI (96 + dgt b i k)) : mea (Lf b i (e - i)) = cmdN b i e := by
  unfold cmdN mea
  rw [sr7]
  simp only [mt_0 hd hb, mt_1 hd hb, mt_2 hd hb, mt_3 hd hb, mt_4 hd hb, mt_5 hd hb, mt_6 hd hb]
theorem meaning_n {L : Nat} (hL : L < 2 ^ 31) : f_X7_meaning (lN L) = some (nI (mea L)) := by
  have e : ∀ (C : Nat) (c : Int64), c = lN C → C < 2 ^ 31 → (lg_cmp (lN L) c = 0 ↔ L = C) := fun C c hc hC => by
    rw [lg_cmp_eq, hc]
    exact lN_eq hL hC
  unfold f_X7_meaning f_X7_meaning_b87 mea
  have e1 := e 2268462 2268462 rfl (by decide)
  have e2 := e 17076 17076 rfl (by decide)
  have e3 := e 150000 150000 rfl (by decide)
  have e4 := e 116831540 116831540 rfl (by decide)
  have e5 := e 1130068 1130068 rfl (by decide)
  have e6 := e 508078 508078 rfl (by decide)
  have e7 := e 3554917 3554917 rfl (by decide)
  by_cases c1 : L = 2268462
  · rw [if_pos (e1.mpr c1), if_pos c1]
    rfl
  · rw [if_neg (fun z => c1 (e1.mp z)), if_neg c1]
    by_cases c2 : L = 17076
    · rw [if_pos (e2.mpr c2), if_pos c2]
      rfl
    · rw [if_neg (fun z => c2 (e2.mp z)), if_neg c2]
      by_cases c3 : L = 150000
      · rw [if_pos (e3.mpr c3), if_pos c3]
        rfl
      · rw [if_neg (fun z => c3 (e3.mp z)), if_neg c3]
        by_cases c4 : L = 116831540
        · rw [if_pos (e4.mpr c4), if_pos c4]
          rfl
        · rw [if_neg (fun z => c4 (e4.mp z)), if_neg c4]
          by_cases c5 : L = 1130068
          · rw [if_pos (e5.mpr c5), if_pos c5]
            rfl
          · rw [if_neg (fun z => c5 (e5.mp z)), if_neg c5]
            by_cases c6 : L = 508078
            · rw [if_pos (e6.mpr c6), if_pos c6]
              rfl
            · rw [if_neg (fun z => c6 (e6.mp z)), if_neg c6]
              by_cases c7 : L = 3554917
              · rw [if_pos (e7.mpr c7), if_pos c7]
                rfl
              · rw [if_neg (fun z => c7 (e7.mp z)), if_neg c7]
                rfl
end PTX1
