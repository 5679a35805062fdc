/-! PURE, the command text: numbers and commands -/
section PTX2
variable {q i j k n m e c len a : Nat} {μ μ' : Mem} {v w x : Int32} {b : Nat → Int32}
theorem mst_3 {y z : Int32} {s t : Nat} (h : s ≠ t) : mst (mst (mst μ q s x) q t y) q s z = mst (mst μ q t y) q s z := by
  rw [mst_com (j := s) (k := t) h, mst_mst]
theorem finW {L : Nat} (hL : L < 2 ^ 31) (h9 : μ q 9 = nI a) : (f_X7_meaning (lN L)).bind (fun v3 => (pf μ q 10 v3).bind (fun μ4 => (if (μ4 q 10) = 0 then f_X7_readWord_b89 q (nI i) μ4 else f_X7_readWord_b89 q (μ4 q 9) μ4))) = some (if mea L = 0 then 0 else 1, mst (mst μ q 10 (nI (mea L))) q 9 (nI (if mea L = 0 then i else a))) := by
  have hm : mea L ≤ 7 := by
    unfold mea
    (repeat' split) <;> decide
  rw [meaning_n hL, Option.bind_some, pf_e, Option.bind_some]
  have e10 : mst μ q 10 (nI (mea L)) q 10 = nI (mea L) := by rw [mst_eq, upd_eq]
  have e9 : mst μ q 10 (nI (mea L)) q 9 = nI a := by rw [mst_eq, upd_ne (by decide)]; exact h9
  rw [e10, e9]
  unfold f_X7_readWord_b89 f_X7_readWord_b104
  have e11 : ∀ x : Int32, mst (mst μ q 10 (nI (mea L))) q 9 x q 10 = nI (mea L) := fun x => by rw [mst_eq, upd_ne (by decide)]; exact e10
  by_cases c1 : mea L = 0
  · rw [if_pos (show nI (mea L) = 0 from congrArg nI c1), pf_e, Option.bind_some, e11, if_pos (show nI (mea L) = 0 from congrArg nI c1), if_pos c1, if_pos c1]
    rfl
  · rw [if_neg (nI_ne0 (by omega) (by omega)), pf_e, Option.bind_some, e11, if_neg (nI_ne0 (by omega) (by omega)), if_neg c1, if_neg c1]
    rfl
theorem readWord_b7 (i : Nat) : ∀ (n a fu : Nat) (μ : Mem), MX q μ b len → μ q 9 = nI a → len ≤ a + n → n < fu → i ≤ a → a ≤ 150 → (∀ k, i ≤ k → k < a → isL (b k) = true) → f_X7_readWord_b7 q fu (nI i) (lN (Lf b i (a - i))) μ = some (if mea (Lf b i (wl isL b n a - i)) = 0 then 0 else 1, mst (mst μ q 10 (nI (mea (Lf b i (wl isL b n a - i))))) q 9 (nI (if mea (Lf b i (wl isL b n a - i)) = 0 then i else wl isL b n a))) := by
  intro n
  have hLf : ∀ (a : Nat) (μ : Mem), MX q μ b len → i ≤ a → (∀ k, i ≤ k → k < a → isL (b k) = true) → Lf b i (a - i) < 2 ^ 31 := fun a μ h hia hl => Lf_31 (fun k hk => by
    have z := dgt_b h.1 (hl (i + k) (by omega) (by omega))
    exact ⟨z.1, z.2.1⟩)
  induction n with
  | zero =>
    intro a fu μ h h9 hl hf hia ha hlt
    obtain ⟨fu, rfl⟩ : ∃ z, fu = z + 1 := ⟨fu - 1, by omega⟩
    rw [f_X7_readWord_b7, here_n h h9 (by omega), Option.bind_some, inL_n, Option.bind_some, h.1.2.2 a (by omega), if_neg (show ¬ isL (-1) = true by decide), if_pos rfl]
    exact finW (hLf a μ h hia hlt) h9
  | succ n ih =>
    intro a fu μ h h9 hl hf hia ha hlt
    obtain ⟨fu, rfl⟩ : ∃ z, fu = z + 1 := ⟨fu - 1, by omega⟩
    rw [f_X7_readWord_b7, here_n h h9 (by omega), Option.bind_some, inL_n, Option.bind_some, wl_s, ifz]
    by_cases c1 : isL (b a) = true
    · obtain ⟨hal, κ, k1, k2, k3⟩ := letter_n h.1 c1
      have h150 := h.1.1
      rw [c1]
      have hn : a + 1 - i = (a - i) + 1 := by omega
      have ea : i + (a - i) = a := by omega
      have ih1 := ih (a + 1) fu (mst μ q 9 (nI (a + 1))) (h.m9 (by decide)) (by rw [mst_eq, upd_eq]) (by omega) (by omega) (by omega) (by omega) (fun k z1 z2 => by
        by_cases c2 : k = a
        · rw [c2]
          exact c1
        · exact hlt k z1 (by omega))
      have fin : ∀ s0 : Int64, s0 = lN (Lf b i (a + 1 - i)) → f_X7_readWord_b51 q (f_X7_readWord_b7 q fu) (nI i) s0 μ = some (if mea (Lf b i (wl isL b n (a + 1) - i)) = 0 then 0 else 1, mst (mst μ q 10 (nI (mea (Lf b i (wl isL b n (a + 1) - i))))) q 9 (nI (if mea (Lf b i (wl isL b n (a + 1) - i)) = 0 then i else wl isL b n (a + 1)))) := fun s0 hs0 => by
        unfold f_X7_readWord_b51
        rw [h9, nI_1, pf_e, Option.bind_some, hs0, ih1, mst_3 (show 9 ≠ 10 by decide)]
      show (if nI i + 6 ≤ μ q 9 then f_X7_readWord_b51 q (f_X7_readWord_b7 q fu) (nI i) 0 μ else (some (b a)).bind (fun v8 => f_X7_readWord_b51 q (f_X7_readWord_b7 q fu) (nI i) (((32 * lN (Lf b i (a - i))) + v8.toInt64) - 96) μ)) = _
      rw [h9, show nI i + 6 = nI (i + 6) by rw [show (6 : Int32) = nI 6 from rfl, nI_add]]
      show _ = some (if mea (Lf b i (wl isL b n (a + 1) - i)) = 0 then 0 else 1, mst (mst μ q 10 (nI (mea (Lf b i (wl isL b n (a + 1) - i))))) q 9 (nI (if mea (Lf b i (wl isL b n (a + 1) - i)) = 0 then i else wl isL b n (a + 1))))
      by_cases c3 : i + 6 ≤ a
      · rw [if_pos (nI_le c3 (by omega))]
        refine fin 0 ?_
        rw [hn, Lf_s, if_neg (by omega)]
        rfl
      · rw [if_neg (nI_ge (by omega) (by omega)), Option.bind_some]
        refine fin _ ?_
        have ed : dgt b i (a - i) = κ - 96 := by
          unfold dgt
          rw [ea, k3, nI_clamp (by omega)]
        rw [hn, Lf_s, if_pos (by omega), ed, k3, nI_l (by omega), show (32 : Int64) = lN 32 from rfl, lN_mul, lN_add, show (96 : Int64) = lN 96 from rfl, lN_sub (by omega), show 32 * Lf b i (a - i) + κ - 96 = 32 * Lf b i (a - i) + (κ - 96) by omega]
    · rw [eq_false_of_ne_true c1]
      exact finW (hLf a μ h hia hlt) h9
theorem SL_ge : i ≤ SL b i := wl_ge 150 i
theorem SL_le (hB : BY b len) (h : i ≤ len) : SL b i ≤ len := wl_le hB (by decide) 150 i h
theorem SK_ge : i ≤ SK b i := wl_ge 150 i
theorem SK_le (hB : BY b len) (h : i ≤ len) : SK b i ≤ len := wl_le hB (by decide) 150 i h
theorem readWord_n (h : MX q μ b len) (h9 : μ q 9 = nI i) (hi : i ≤ len) : f_X7_readWord q μ = some (if cmdN b i (SL b i) = 0 then 0 else 1, mst (mst μ q 10 (nI (cmdN b i (SL b i)))) q 9 (nI (if cmdN b i (SL b i) = 0 then i else SL b i))) := by
  have h150 := h.1.1
  have e := readWord_b7 (q := q) (b := b) (len := len) i 150 i FU μ h h9 (by omega) (by decide) (Nat.le_refl _) (by omega) (fun k z1 z2 => absurd z2 (by omega))
  rw [Nat.sub_self] at e
  have hl : ∀ k, k < SL b i - i → isL (b (i + k)) = true := fun k hk => wl_all 150 i (i + k) (by omega) (by show i + k < SL b i; omega)
  have ec := cmd_eq (b := b) (i := i) (e := SL b i) (fun k hk => ⟨(dgt_b h.1 (hl k hk)).1, (dgt_b h.1 (hl k hk)).2.1⟩) (fun k hk => (dgt_b h.1 (hl k hk)).2.2)
  have ew : wl isL b 150 i = SL b i := rfl
  rw [ew, ec] at e
  unfold f_X7_readWord
  rw [h9]
  exact e
-- numbers
def nd (b : Nat → Int32) : Nat → Nat → Int32 → Int32 × Nat
  | 0, i, x => (x, i)
  | m + 1, i, x => if isD (b i) then nd b m (i + 1) (10 * x + b i - 48) else (x, i)
theorem nd_s (m i : Nat) (x : Int32) : nd b (m + 1) i x = if isD (b i) then nd b m (i + 1) (10 * x + b i - 48) else (x, i) := rfl
theorem isD_lt (hB : BY b len) (h : isD (b i) = true) : i < len := by
  by_cases c : len ≤ i
  · rw [hB.2.2 i c] at h
    exact absurd h (by decide)
  · omega
theorem nd_le (hB : BY b len) : ∀ (m i : Nat) (x : Int32), i ≤ len → i ≤ (nd b m i x).2 ∧ (nd b m i x).2 ≤ len
  | 0, i, x, h => ⟨Nat.le_refl _, h⟩
  | m + 1, i, x, h => by
    rw [nd_s]
    split
    · rename_i c
      have z := nd_le hB m (i + 1) (10 * x + b i - 48) (by have := isD_lt hB c; omega)
      exact ⟨by omega, z.2⟩
    · exact ⟨Nat.le_refl _, h⟩
def num (b : Nat → Int32) (i : Nat) : Sum (Int32 × Nat) Nat := if b i = 32 then (if isD (b (SK b i)) then Sum.inl (nd b 3 (SK b i) 0) else Sum.inr (SK b i)) else Sum.inr i
theorem b32_lt (hB : BY b len) {y : Int32} (hy : y ≠ -1) (h : b i = y) : i < len := by
  by_cases c : len ≤ i
  · rw [hB.2.2 i c] at h
    exact absurd h.symm hy
  · omega
theorem num_le (hB : BY b len) {z : Int32 × Nat} (h : num b i = Sum.inl z) : i < z.2 ∧ z.2 ≤ len := by
  unfold num at h
  split at h
  · rename_i c1
    have hi := b32_lt hB (by decide) c1
    split at h
    · rename_i c2
      have hz := Sum.inl.inj h
      have z1 := isD_lt hB c2
      have z2 := SK_ge (b := b) (i := i)
      have z3 := nd_le hB 2 (SK b i + 1) (10 * 0 + b (SK b i) - 48) (by omega)
      rw [nd_s, if_pos c2] at hz
      rw [← hz]
      exact ⟨by omega, z3.2⟩
    · cases h
  · cases h
theorem scanNumber_b57 : ∀ (m k i fu : Nat) (x : Int32) (μ : Mem), CX q μ b len → μ q 2 = nI i → k + m = 3 → m < fu → i < 1000 → f_X3_scanNumber_b57 q fu x (nI k) μ = some ((nd b m i x).1, mst μ q 2 (nI (nd b m i x).2)) := by
  intro m
  induction m with
  | zero =>
    intro k i fu x μ h h2 hk hf hi
    obtain ⟨fu, rfl⟩ : ∃ z, fu = z + 1 := ⟨fu - 1, by omega⟩
    rw [f_X3_scanNumber_b57, if_pos (lI (c := 3) 3 k rfl (by omega) (by omega))]
    show some (x, μ) = some (x, mst μ q 2 (nI i))
    rw [mst_slf h2]
  | succ m ih =>
    intro k i fu x μ h h2 hk hf hi
    obtain ⟨fu, rfl⟩ : ∃ z, fu = z + 1 := ⟨fu - 1, by omega⟩
    rw [f_X3_scanNumber_b57, if_neg (nlI (c := 3) 3 k rfl (by omega) (by omega)), h2, byteAt_n h (by omega), Option.bind_some, isDigit_n, Option.bind_some, nd_s, ifz]
    by_cases c1 : isD (b i) = true
    · have hlt := isD_lt h.1 c1
      have h150 := h.1.1
      rw [c1]
      show (some (b i)).bind (fun v7 => (pf μ q 2 (nI i + 1)).bind (fun μ8 => f_X3_scanNumber_b57 q fu (((10 * x) + v7) - 48) (nI k + 1) μ8)) = some ((nd b m (i + 1) (10 * x + b i - 48)).1, mst μ q 2 (nI (nd b m (i + 1) (10 * x + b i - 48)).2))
      rw [Option.bind_some, pf_e, Option.bind_some, nI_1, nI_1, ih (k + 1) (i + 1) fu _ _ (h.m2 (by decide)) (by rw [mst_eq, upd_eq]) (by omega) (by omega) (by omega), mst_mst]
    · rw [eq_false_of_ne_true c1]
      show some (x, μ) = some (x, mst μ q 2 (nI i))
      rw [mst_slf h2]
/-- the class's number: what becomes of its memory -/
theorem scanNumber_n (h : CX q μ b len) (h2 : μ q 2 = nI i) (hi : i ≤ len) : (∃ z, num b i = Sum.inl z ∧ f_X3_scanNumber q μ = some (z.1, mst μ q 2 (nI z.2))) ∨ (∃ f y, num b i = Sum.inr f ∧ f_X3_scanNumber q μ = some (0, mst (mst μ q 2 y) q 3 (nI f))) := by
  have h150 := h.1.1
  unfold f_X3_scanNumber num
  rw [h2, byteAt_n h (by omega), Option.bind_some]
  by_cases c1 : b i = 32
  · have hk := SK_le h.1 hi
    have h2' : mst μ q 2 (nI (SK b i)) q 2 = nI (SK b i) := by rw [mst_eq, upd_eq]
    rw [if_pos c1, if_pos c1, skip_n h h2 (by omega), Option.bind_some, h2', byteAt_n (h.m2 (by decide)) (by omega), Option.bind_some, isDigit_n, Option.bind_some, ifz]
    by_cases c2 : isD (b (SK b i)) = true
    · rw [if_pos c2, if_pos c2]
      refine Or.inl ⟨_, rfl, ?_⟩
      have e := scanNumber_b57 (q := q) (b := b) (len := len) 3 0 (SK b i) FU 0 _ (h.m2 (x := nI (SK b i)) (by decide)) h2' (by omega) (by decide) (by omega)
      rw [nI_0, mst_mst] at e
      exact e
    · rw [if_neg c2, if_neg c2]
      exact Or.inr ⟨SK b i, nI (SK b i), rfl, rfl⟩
  · rw [if_neg c1, if_neg c1]
    refine Or.inr ⟨i, nI i, rfl, ?_⟩
    rw [mst_slf h2]
    rfl
theorem readNumber_b27 {t : Nat} (ht : t < 2) {j0 : Nat} (hj0 : j0 ≤ 200) : ∀ (m a fu : Nat) (x : Int32) (μ : Mem), MX q μ b len → μ q 9 = nI a → μ (q + 6) t = x → a + m = j0 + 3 → m < fu → a ≤ 200 → f_X7_readNumber_b27 q fu (nI t) (nI j0) μ = some (if (nd b m a x).2 ≤ j0 then 0 else 1, mst (mst μ (q + 6) t (nd b m a x).1) q 9 (nI (nd b m a x).2)) := by
  have b87 : ∀ (a : Nat) (x : Int32) (μ : Mem), μ q 9 = nI a → μ (q + 6) t = x → a ≤ 300 → j0 ≤ 300 → f_X7_readNumber_b87 q (nI j0) μ = some (if a ≤ j0 then 0 else 1, mst (mst μ (q + 6) t x) q 9 (nI a)) := fun a x μ h9 hx ha hj => by
    unfold f_X7_readNumber_b87 f_X7_readNumber_b100
    rw [h9, mst_slf hx, mst_slf h9]
    by_cases c : a ≤ j0
    · rw [if_pos (nI_le c (by omega)), if_pos c]
      rfl
    · rw [if_neg (nI_ge (by omega) (by omega)), if_neg c]
      rfl
  intro m
  induction m with
  | zero =>
    intro a fu x μ h h9 hx hm hf ha
    obtain ⟨fu, rfl⟩ : ∃ z, fu = z + 1 := ⟨fu - 1, by omega⟩
    rw [f_X7_readNumber_b27, here_n h h9 (by omega), Option.bind_some, inD_n, Option.bind_some, ifz]
    have e := b87 a x μ h9 hx (by omega) (by omega)
    by_cases c1 : isD (b a) = true
    · rw [c1]
      show (if nI j0 + 3 ≤ μ q 9 then f_X7_readNumber_b87 q (nI j0) μ else _) = _
      rw [h9, show nI j0 + 3 = nI (j0 + 3) by rw [show (3 : Int32) = nI 3 from rfl, nI_add], if_pos (nI_le (by omega) (by omega))]
      exact e
    · rw [eq_false_of_ne_true c1]
      exact e
  | succ m ih =>
    intro a fu x μ h h9 hx hm hf ha
    obtain ⟨fu, rfl⟩ : ∃ z, fu = z + 1 := ⟨fu - 1, by omega⟩
    rw [f_X7_readNumber_b27, here_n h h9 (by omega), Option.bind_some, inD_n, Option.bind_some, ifz, nd_s]
    by_cases c1 : isD (b a) = true
    · have hlt := isD_lt h.1 c1
      have h150 := h.1.1
      rw [c1]
      show (if nI j0 + 3 ≤ μ q 9 then f_X7_readNumber_b87 q (nI j0) μ else (rd 2 (μ (q + 6)) (nI t)).bind (fun v7 => (some (b a)).bind (fun v8 => (wr μ (q + 6) 2 (nI t) (((10 * v7) + v8) - 48)).bind (fun μ9 => (pf μ9 q 9 ((μ9 q 9) + 1)).bind (fun μ10 => f_X7_readNumber_b27 q fu (nI t) (nI j0) μ10))))) = some (if (nd b m (a + 1) (10 * x + b a - 48)).2 ≤ j0 then 0 else 1, mst (mst μ (q + 6) t (nd b m (a + 1) (10 * x + b a - 48)).1) q 9 (nI (nd b m (a + 1) (10 * x + b a - 48)).2))
      rw [h9, show nI j0 + 3 = nI (j0 + 3) by rw [show (3 : Int32) = nI 3 from rfl, nI_add], if_neg (nI_ge (by omega) (by omega)), rd_n ht (by decide), Option.bind_some, hx, Option.bind_some, wr_n ht (by decide), Option.bind_some, mst_ne (show q ≠ q + 6 by omega), h9, nI_1, pf_e, Option.bind_some]
      rw [ih (a + 1) fu (10 * x + b a - 48) _ ((h.fr (μ' := mst μ (q + 6) t (10 * x + b a - 48)) (by rw [mst_ne (by omega)]) (mst_ne (by omega))).m9 (by decide)) (by rw [mst_eq, upd_eq]) (by rw [mst_ne (by omega), mst_eq, upd_eq]) (by omega) (by omega) (by omega)]
      congr 2
      funext z
      by_cases z1 : z = q
      · rw [z1, mst_eq, mst_eq, mst_ne (show q ≠ q + 6 by omega), mst_eq, mst_ne (show q ≠ q + 6 by omega), mst_ne (show q ≠ q + 6 by omega)]
        funext y
        by_cases z2 : y = 9
        · rw [z2, upd_eq, upd_eq]
        · rw [upd_ne z2, upd_ne z2, upd_ne z2]
      · rw [mst_ne z1, mst_ne z1]
        by_cases z3 : z = q + 6
        · rw [z3, mst_eq, mst_ne (show q + 6 ≠ q by omega), mst_eq, mst_eq]
          funext y
          by_cases z2 : y = t
          · rw [z2, upd_eq, upd_eq]
          · rw [upd_ne z2, upd_ne z2, upd_ne z2]
        · rw [mst_ne z3, mst_ne z1, mst_ne z3, mst_ne z3]
    · rw [eq_false_of_ne_true c1]
      exact b87 a x μ h9 hx (by omega) (by omega)
/-- the model's number -/
theorem readNumber_n {t : Nat} (ht : t < 2) (h : MX q μ b len) (h9 : μ q 9 = nI i) (hi : i ≤ len) : (∃ z, num b i = Sum.inl z ∧ f_X7_readNumber q (nI t) μ = some (1, mst (mst μ (q + 6) t z.1) q 9 (nI z.2))) ∨ (∃ f μ', num b i = Sum.inr f ∧ f_X7_readNumber q (nI t) μ = some (0, μ') ∧ μ' q 9 = nI f ∧ (∀ z, z ≠ q → z ≠ q + 6 → μ' z = μ z) ∧ ∀ y, y ≠ 9 → μ' q y = μ q y) := by
  have h150 := h.1.1
  unfold f_X7_readNumber num
  rw [here_n h h9 (by omega), Option.bind_some]
  by_cases c1 : b i = 32
  · have hk := SK_le h.1 hi
    have hK : MX q (mst μ q 9 (nI (SK b i))) b len := h.m9 (by decide)
    rw [if_pos c1, if_pos c1, spaces_n h h9 (by omega), Option.bind_some, wr_n ht (by decide), Option.bind_some, show mst μ q 9 (nI (SK b i)) q 9 = nI (SK b i) by rw [mst_eq, upd_eq]]
    have e := readNumber_b27 (q := q) (b := b) (len := len) ht (j0 := SK b i) (by omega) 3 (SK b i) FU 0 (mst (mst μ q 9 (nI (SK b i))) (q + 6) t 0) (hK.fr (by rw [mst_ne (by omega)]) (mst_ne (by omega))) (by rw [mst_ne (by omega), mst_eq, upd_eq]) (by rw [mst_eq, upd_eq]) (by omega) (by decide) (by omega)
    by_cases c2 : isD (b (SK b i)) = true
    · rw [if_pos c2]
      refine Or.inl ⟨_, rfl, ?_⟩
      have z1 := isD_lt h.1 c2
      have z3 := nd_le h.1 2 (SK b i + 1) (10 * 0 + b (SK b i) - 48) (by omega)
      have z4 : ¬ (nd b 3 (SK b i) 0).2 ≤ SK b i := by
        rw [nd_s, if_pos c2]
        omega
      rw [if_neg z4] at e
      rw [e]
      congr 2
      funext z
      by_cases y1 : z = q
      · rw [y1, mst_eq, mst_eq, mst_ne (show q ≠ q + 6 by omega), mst_ne (show q ≠ q + 6 by omega), mst_eq, mst_ne (show q ≠ q + 6 by omega)]
        funext y
        by_cases y2 : y = 9
        · rw [y2, upd_eq, upd_eq]
        · rw [upd_ne y2, upd_ne y2, upd_ne y2]
      · rw [mst_ne y1, mst_ne y1]
        by_cases y3 : z = q + 6
        · rw [y3, mst_eq, mst_eq, mst_ne (show q + 6 ≠ q by omega), mst_eq]
          funext y
          by_cases y2 : y = t
          · rw [y2, upd_eq, upd_eq]
          · rw [upd_ne y2, upd_ne y2, upd_ne y2]
        · rw [mst_ne y3, mst_ne y3, mst_ne y1, mst_ne y3]
    · rw [if_neg c2]
      have z0 : nd b 3 (SK b i) 0 = (0, SK b i) := by rw [nd_s, if_neg c2]
      rw [z0, if_pos (Nat.le_refl _)] at e
      refine Or.inr ⟨SK b i, _, rfl, e, by rw [mst_eq, upd_eq], fun z y1 y2 => by rw [mst_ne y1, mst_ne y2, mst_ne y2, mst_ne y1], fun y hy => by rw [mst_eq, upd_ne hy, mst_ne (by omega), mst_ne (by omega), mst_eq, upd_ne hy]⟩
  · rw [if_neg c1, if_neg c1]
    exact Or.inr ⟨i, μ, rfl, rfl, h9, fun _ _ _ => rfl, fun _ _ => rfl⟩
end PTX2
