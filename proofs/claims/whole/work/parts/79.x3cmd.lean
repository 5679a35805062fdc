/-! PURE, the command text: a command read on both sides -/
section PTX3
variable {q i j k n m e c len a f : Nat} {μ μ' : Mem} {v w x : Int32} {b : Nat → Int32}
def kN (c : Nat) : Nat := if c = 2 then 2 else if c = 3 ∨ c = 4 ∨ c = 7 then 1 else 0
def nums (b : Nat → Int32) (kk e : Nat) : Sum (Int32 × Int32 × Nat) Nat := if kk = 0 then Sum.inl (0, 0, e) else match num b e with
  | Sum.inr f => Sum.inr f
  | Sum.inl z => if kk = 1 then Sum.inl (z.1, 0, z.2) else match num b z.2 with
    | Sum.inr f => Sum.inr f
    | Sum.inl y => Sum.inl (z.1, y.1, y.2)
def fin (b : Nat → Int32) (c : Nat) (r : Sum (Int32 × Int32 × Nat) Nat) : Sum (Nat × Int32 × Int32 × Nat) Nat := match r with
  | Sum.inr f => Sum.inr f
  | Sum.inl z => if b (SK b z.2.2) = 59 then Sum.inl (c, z.1, z.2.1, SK b z.2.2 + 1) else Sum.inr (SK b z.2.2)
def pc (b : Nat → Int32) (j : Nat) : Sum (Nat × Int32 × Int32 × Nat) Nat := if cmdN b j (SL b j) = 0 then Sum.inr j else fin b (cmdN b j (SL b j)) (nums b (kN (cmdN b j (SL b j))) (SL b j))
theorem kN_le : kN c ≤ 2 := by
  unfold kN
  (repeat' split) <;> decide
theorem num_f (hB : BY b len) (hi : i ≤ len) (h : num b i = Sum.inr f) : f ≤ len := by
  unfold num at h
  split at h
  · split at h
    · cases h
    · rw [← Sum.inr.inj h]
      exact SK_le hB hi
  · rw [← Sum.inr.inj h]
    exact hi
theorem nums_0 : nums b 0 e = Sum.inl (0, 0, e) := rfl
theorem nums_1 {z : Int32 × Nat} (h : num b e = Sum.inl z) : nums b 1 e = Sum.inl (z.1, 0, z.2) := by
  unfold nums
  rw [if_neg (by decide), h]
  rfl
theorem nums_f {kk : Nat} (hk : kk ≠ 0) (h : num b e = Sum.inr f) : nums b kk e = Sum.inr f := by
  unfold nums
  rw [if_neg hk, h]
theorem nums_2 {z y : Int32 × Nat} (h : num b e = Sum.inl z) (h2 : num b z.2 = Sum.inl y) : nums b 2 e = Sum.inl (z.1, y.1, y.2) := by
  unfold nums
  rw [if_neg (by decide), h]
  show (if 2 = 1 then Sum.inl (z.1, 0, z.2) else match num b z.2 with
    | Sum.inr f => Sum.inr f
    | Sum.inl y => Sum.inl (z.1, y.1, y.2)) = _
  rw [if_neg (by decide), h2]
theorem nums_2f {z : Int32 × Nat} (h : num b e = Sum.inl z) (h2 : num b z.2 = Sum.inr f) : nums b 2 e = Sum.inr f := by
  unfold nums
  rw [if_neg (by decide), h]
  show (if 2 = 1 then Sum.inl (z.1, 0, z.2) else match num b z.2 with
    | Sum.inr f => Sum.inr f
    | Sum.inl y => Sum.inl (z.1, y.1, y.2)) = _
  rw [if_neg (by decide), h2]
def CF (q : Nat) (μ μ' : Mem) : Prop := (∀ z, z ≠ q → μ' z = μ z) ∧ μ' q 1 = μ q 1
def MF (q : Nat) (μ μ' : Mem) : Prop := (∀ z, z ≠ q → z ≠ q + 6 → μ' z = μ z) ∧ ∀ y, y ≠ 9 → y ≠ 10 → μ' q y = μ q y
theorem CF.rf : CF q μ μ := ⟨fun _ _ => rfl, rfl⟩
theorem CF.tr {μ'' : Mem} (h : CF q μ μ') (h' : CF q μ' μ'') : CF q μ μ'' := ⟨fun z hz => (h'.1 z hz).trans (h.1 z hz), h'.2.trans h.2⟩
theorem CF.ms {t : Nat} (ht : t ≠ 1) : CF q μ (mst μ q t x) := ⟨fun z hz => mst_ne hz, by rw [mst_eq, upd_ne ht.symm]⟩
theorem MF.rf : MF q μ μ := ⟨fun _ _ _ => rfl, fun _ _ _ => rfl⟩
theorem MF.tr {μ'' : Mem} (h : MF q μ μ') (h' : MF q μ' μ'') : MF q μ μ'' := ⟨fun z hz hy => (h'.1 z hz hy).trans (h.1 z hz hy), fun y h1 h2 => (h'.2 y h1 h2).trans (h.2 y h1 h2)⟩
theorem MF.ms {t : Nat} (ht : t = 9 ∨ t = 10) : MF q μ (mst μ q t x) := ⟨fun z hz _ => mst_ne hz, fun y h1 h2 => by rw [mst_eq, upd_ne (by omega)]⟩
theorem MF.mn {t : Nat} : MF q μ (mst μ (q + 6) t x) := ⟨fun z _ hz => mst_ne hz, fun y _ _ => by rw [mst_ne (by omega)]⟩
theorem CX.cf (h : CX q μ b len) (hf : CF q μ μ') : CX q μ' b len := h.fr hf.2 (hf.1 _ (by omega))
theorem MX.mf (h : MX q μ b len) (hf : MF q μ μ') : MX q μ' b len := h.fr (hf.2 5 (by decide) (by decide)) (hf.1 _ (by omega) (by omega))
theorem nI_n1000 {f : Nat} (h : f < 2 ^ 31) : ¬ nI f = -1000 := not_none (nI_pos' h)
theorem b35_ok (h : μ q 3 = -1000) : f_X3_scanNumbers_b35 q μ = some (1, μ) := by
  unfold f_X3_scanNumbers_b35
  rw [if_pos h]
  rfl
theorem b35_no (h : μ q 3 = nI f) (hf : f < 2 ^ 31) : f_X3_scanNumbers_b35 q μ = some (0, μ) := by
  unfold f_X3_scanNumbers_b35
  rw [if_neg (by rw [h]; exact nI_n1000 hf)]
  rfl
theorem scanNumbers_n {kk : Nat} (h : CX q μ b len) (h2 : μ q 2 = nI e) (h3 : μ q 3 = -1000) (he : e ≤ len) (hk : kk ≤ 2) : (∃ v w e' μ', nums b kk e = Sum.inl (v, w, e') ∧ e ≤ e' ∧ e' ≤ len ∧ f_X3_scanNumbers q (nI kk) μ = some (1, μ') ∧ CF q μ μ' ∧ μ' q 2 = nI e' ∧ μ' q 3 = -1000 ∧ μ' q 4 = μ q 4 ∧ (1 ≤ kk → μ' q 5 = v) ∧ (kk = 2 → μ' q 6 = w)) ∨ (∃ f μ', nums b kk e = Sum.inr f ∧ f ≤ len ∧ f_X3_scanNumbers q (nI kk) μ = some (0, μ') ∧ CF q μ μ' ∧ μ' q 3 = nI f) := by
  have h150 := h.1.1
  unfold f_X3_scanNumbers
  by_cases k0 : kk = 0
  · rw [k0, if_pos (by decide)]
    unfold f_X3_scanNumbers_b12
    rw [if_pos (by decide), b35_ok h3]
    exact Or.inl ⟨0, 0, e, μ, nums_0, Nat.le_refl _, he, rfl, CF.rf, h2, h3, rfl, fun z => absurd z (by decide), fun z => absurd z (by decide)⟩
  · rw [if_neg (nI_nle (by omega) (by omega))]
    rcases scanNumber_n h h2 he with ⟨z, e1, e2⟩ | ⟨f, y, e1, e2⟩
    · have hz := num_le h.1 e1
      rw [e2, bn2_some, pf_e, Option.bind_some]
      obtain ⟨M, eM⟩ : ∃ M, M = mst (mst μ q 2 (nI z.2)) q 5 z.1 := ⟨_, rfl⟩
      have mF : CF q μ M := by rw [eM]; exact (CF.ms (by decide)).tr (CF.ms (by decide))
      have m2 : M q 2 = nI z.2 := by rw [eM, mst_eq, upd_ne (by decide), mst_eq, upd_eq]
      have m3 : M q 3 = -1000 := by rw [eM, mst_eq, upd_ne (by decide), mst_eq, upd_ne (by decide)]; exact h3
      have m4 : M q 4 = μ q 4 := by rw [eM, mst_eq, upd_ne (by decide), mst_eq, upd_ne (by decide)]
      have m5 : M q 5 = z.1 := by rw [eM, mst_eq, upd_eq]
      rw [← eM]
      unfold f_X3_scanNumbers_b12
      by_cases k1 : kk = 1
      · rw [k1, if_pos (by decide), b35_ok m3]
        exact Or.inl ⟨z.1, 0, z.2, M, nums_1 e1, by omega, hz.2, rfl, mF, m2, m3, m4, fun _ => m5, fun y => absurd y (by decide)⟩
      · have k2 : kk = 2 := by omega
        rw [k2, if_neg (by decide), if_pos m3]
        rcases scanNumber_n (h.cf mF) m2 hz.2 with ⟨y, g1, g2⟩ | ⟨f, y, g1, g2⟩
        · have hy := num_le h.1 g1
          rw [g2, bn2_some, pf_e, Option.bind_some]
          obtain ⟨N, eN⟩ : ∃ N, N = mst (mst M q 2 (nI y.2)) q 6 y.1 := ⟨_, rfl⟩
          have n3 : N q 3 = -1000 := by rw [eN, mst_eq, upd_ne (by decide), mst_eq, upd_ne (by decide)]; exact m3
          rw [← eN, b35_ok n3]
          refine Or.inl ⟨z.1, y.1, y.2, N, nums_2 e1 g1, by omega, hy.2, rfl, by rw [eN]; exact mF.tr ((CF.ms (by decide)).tr (CF.ms (by decide))), ?_, n3, ?_, fun _ => ?_, fun _ => ?_⟩
          · rw [eN, mst_eq, upd_ne (by decide), mst_eq, upd_eq]
          · rw [eN, mst_eq, upd_ne (by decide), mst_eq, upd_ne (by decide)]
            exact m4
          · rw [eN, mst_eq, upd_ne (by decide), mst_eq, upd_ne (by decide)]
            exact m5
          · rw [eN, mst_eq, upd_eq]
        · have hf := num_f h.1 hz.2 g1
          rw [g2, bn2_some, pf_e, Option.bind_some]
          have n3 : mst (mst (mst M q 2 y) q 3 (nI f)) q 6 0 q 3 = nI f := by rw [mst_eq, upd_ne (by decide), mst_eq, upd_eq]
          rw [b35_no n3 (by omega)]
          exact Or.inr ⟨f, _, nums_2f e1 g1, hf, rfl, mF.tr (((CF.ms (by decide)).tr (CF.ms (by decide))).tr (CF.ms (by decide))), n3⟩
    · have hf := num_f h.1 he e1
      rw [e2, bn2_some, pf_e, Option.bind_some]
      have n3 : mst (mst (mst μ q 2 y) q 3 (nI f)) q 5 0 q 3 = nI f := by rw [mst_eq, upd_ne (by decide), mst_eq, upd_eq]
      refine Or.inr ⟨f, mst (mst (mst μ q 2 y) q 3 (nI f)) q 5 0, nums_f k0 e1, hf, ?_, ((CF.ms (by decide)).tr (CF.ms (by decide))).tr (CF.ms (by decide)), n3⟩
      unfold f_X3_scanNumbers_b12
      rw [if_neg (show ¬ mst (mst (mst μ q 2 y) q 3 (nI f)) q 5 0 q 3 = -1000 by rw [n3]; exact nI_n1000 (by omega)), b35_no n3 (by omega), ite_self]
theorem semi_n (h : CX q μ b len) (h2 : μ q 2 = nI e) (he : e ≤ len) : f_X3_scanSemicolon q μ = if b (SK b e) = 59 then some (1, mst μ q 2 (nI (SK b e + 1))) else some (0, mst (mst μ q 2 (nI (SK b e))) q 3 (nI (SK b e))) := by
  have h150 := h.1.1
  have hk := SK_le h.1 he
  have h2' : mst μ q 2 (nI (SK b e)) q 2 = nI (SK b e) := by rw [mst_eq, upd_eq]
  unfold f_X3_scanSemicolon
  rw [skip_n h h2 (by omega), Option.bind_some, h2', byteAt_n (h.m2 (by decide)) (by omega), Option.bind_some]
  by_cases c1 : b (SK b e) = 59
  · rw [if_pos c1, if_pos c1, nI_1, pf_e, Option.bind_some, mst_mst]
  · rw [if_neg c1, if_neg c1]
    rfl
theorem wlen_pos {c : Nat} (h : c < 7) : wlen.getD c 0 ≠ 0 := by
  rcases (show c = 0 ∨ c = 1 ∨ c = 2 ∨ c = 3 ∨ c = 4 ∨ c = 5 ∨ c = 6 by omega) with rfl | rfl | rfl | rfl | rfl | rfl | rfl <;> decide
theorem cmdN_self : cmdN b i i = 0 := by
  unfold cmdN
  rw [srf 7 0 (fun j h1 h2 => by
    unfold mt
    rw [decide_eq_false (show ¬ wlen.getD j 0 = i - i by rw [Nat.sub_self]; exact wlen_pos (by omega)), Bool.false_and])]
theorem SL_no (h : isL (b i) = false) : SL b i = i := by
  show wl isL b (149 + 1) i = i
  rw [wl_s, if_neg (by rw [h]; decide)]
theorem c7 {P : Nat → Prop} (h1 : P 1) (h2 : P 2) (h3 : P 3) (h4 : P 4) (h5 : P 5) (h6 : P 6) (h7 : P 7) (hc : 1 ≤ c) (hc7 : c ≤ 7) : P c := by
  rcases (show c = 1 ∨ c = 2 ∨ c = 3 ∨ c = 4 ∨ c = 5 ∨ c = 6 ∨ c = 7 by omega) with rfl | rfl | rfl | rfl | rfl | rfl | rfl <;> assumption
theorem en_n (hc : 1 ≤ c) (hc7 : c ≤ 7) : en (nI c) = some (nI c) := c7 (P := fun c => en (nI c) = some (nI c)) rfl rfl rfl rfl rfl rfl rfl hc hc7
theorem numb_n (hc : 1 ≤ c) (hc7 : c ≤ 7) : numb (nI c) = nI (kN c) := c7 (P := fun c => numb (nI c) = nI (kN c)) rfl rfl rfl rfl rfl rfl rfl hc hc7
theorem pc_0 (h : cmdN b j (SL b j) = 0) : pc b j = Sum.inr j := if_pos h
theorem pc_1 (h : cmdN b j (SL b j) ≠ 0) : pc b j = fin b (cmdN b j (SL b j)) (nums b (kN (cmdN b j (SL b j))) (SL b j)) := if_neg h
/-- the class's scan of a command -/
theorem scanCommand_n (h : CX q μ b len) (h2 : μ q 2 = nI i) (h3 : μ q 3 = -1000) (hi : i ≤ len) (hj : SK b i < len) : (∃ c v w e μ', pc b (SK b i) = Sum.inl (c, v, w, e) ∧ 1 ≤ c ∧ c ≤ 7 ∧ i < e ∧ e ≤ len ∧ f_X3_scanCommand q μ = some (1, μ') ∧ CF q μ μ' ∧ μ' q 2 = nI e ∧ μ' q 3 = -1000 ∧ μ' q 4 = nI c ∧ (1 ≤ kN c → μ' q 5 = v) ∧ (kN c = 2 → μ' q 6 = w)) ∨ (∃ f μ', pc b (SK b i) = Sum.inr f ∧ f ≤ len ∧ f_X3_scanCommand q μ = some (0, μ') ∧ CF q μ μ' ∧ μ' q 3 = nI f) := by
  have h150 := h.1.1
  have hge := SK_ge (b := b) (i := i)
  generalize hJ : SK b i = j at hj hge ⊢
  have hX1 : CX q (mst μ q 2 (nI j)) b len := h.m2 (by decide)
  have m2 : mst μ q 2 (nI j) q 2 = nI j := by rw [mst_eq, upd_eq]
  have m3 : mst μ q 2 (nI j) q 3 = -1000 := by rw [mst_eq, upd_ne (by decide)]; exact h3
  have f1 : CF q μ (mst μ q 2 (nI j)) := CF.ms (by decide)
  unfold f_X3_scanCommand
  rw [skip_n h h2 (by omega), hJ, Option.bind_some, m2, hX1.2.1, if_pos (nI_lt hj (by omega)), byteAt_n hX1 (by omega), Option.bind_some, isLetter_n, Option.bind_some, ifz]
  by_cases c1 : isL (b j) = true
  · rw [if_pos c1, letters_n hX1 m2 (by omega), Option.bind_some, mst_mst]
    have hsl := SL_le h.1 (show j ≤ len by omega)
    have hsg := SL_ge (b := b) (i := j)
    have hX2 : CX q (mst μ q 2 (nI (SL b j))) b len := h.m2 (by decide)
    have n2 : mst μ q 2 (nI (SL b j)) q 2 = nI (SL b j) := by rw [mst_eq, upd_eq]
    rw [named_n hX2 n2 hsg (by omega), Option.bind_some, pf_e, Option.bind_some]
    obtain ⟨M, eM⟩ : ∃ M, M = mst (mst μ q 2 (nI (SL b j))) q 4 (nI (cmdN b j (SL b j))) := ⟨_, rfl⟩
    have mF : CF q μ M := by rw [eM]; exact (CF.ms (by decide)).tr (CF.ms (by decide))
    have p4 : M q 4 = nI (cmdN b j (SL b j)) := by rw [eM, mst_eq, upd_eq]
    have p2 : M q 2 = nI (SL b j) := by rw [eM, mst_eq, upd_ne (by decide), mst_eq, upd_eq]
    have p3 : M q 3 = -1000 := by rw [eM, mst_eq, upd_ne (by decide), mst_eq, upd_ne (by decide)]; exact h3
    rw [← eM, p4]
    have hc7 := cmdN_lt (b := b) (i := j) (e := SL b j)
    by_cases c0 : cmdN b j (SL b j) = 0
    · rw [if_pos (show nI (cmdN b j (SL b j)) = 0 from congrArg nI c0), pc_0 c0]
      exact Or.inr ⟨j, mst M q 3 (nI j), rfl, by omega, rfl, mF.tr (CF.ms (by decide)), by rw [mst_eq, upd_eq]⟩
    · rw [if_neg (nI_ne0 (by omega) (by omega)), pc_1 c0, en_n (by omega) hc7, Option.bind_some, numb_n (by omega) hc7]
      rcases scanNumbers_n (kk := kN (cmdN b j (SL b j))) (h.cf mF) p2 p3 hsl kN_le with ⟨v, w, e', N, g1, g2, g3, g4, g5, g6, g7, g8, g9, g10⟩ | ⟨f, N, g1, g2, g3, g4, g5⟩
      · rw [g4, bn2_some, if_neg (by decide), semi_n ((h.cf mF).cf g5) g6 g3, g1]
        have hk := SK_le h.1 g3
        have hkg := SK_ge (b := b) (i := e')
        by_cases c2 : b (SK b e') = 59
        · have hlt := b32_lt h.1 (by decide) c2
          rw [if_pos c2, bn2_some, if_neg (by decide)]
          refine Or.inl ⟨cmdN b j (SL b j), v, w, SK b e' + 1, mst N q 2 (nI (SK b e' + 1)), if_pos c2, by omega, hc7, by omega, by omega, rfl, (mF.tr g5).tr (CF.ms (by decide)), by rw [mst_eq, upd_eq], ?_, ?_, fun z => ?_, fun z => ?_⟩
          · rw [mst_eq, upd_ne (by decide)]
            exact g7
          · rw [mst_eq, upd_ne (by decide), g8, p4]
          · rw [mst_eq, upd_ne (by decide)]
            exact g9 z
          · rw [mst_eq, upd_ne (by decide)]
            exact g10 z
        · rw [if_neg c2, bn2_some, if_pos rfl]
          exact Or.inr ⟨SK b e', _, if_neg c2, hk, rfl, ((mF.tr g5).tr (CF.ms (by decide))).tr (CF.ms (by decide)), by rw [mst_eq, upd_eq]⟩
      · rw [g3, bn2_some, if_pos rfl, g1]
        exact Or.inr ⟨f, N, rfl, g2, rfl, mF.tr g4, g5⟩
  · have c2 := eq_false_of_ne_true c1
    rw [if_neg c1]
    have e0 : cmdN b j (SL b j) = 0 := by
      rw [SL_no c2]
      exact cmdN_self
    rw [pc_0 e0]
    exact Or.inr ⟨j, mst (mst μ q 2 (nI j)) q 3 (nI j), rfl, by omega, rfl, f1.tr (CF.ms (by decide)), by rw [mst_eq, upd_eq]⟩
theorem scanCommand_end (h : CX q μ b len) (h2 : μ q 2 = nI i) (hi : i ≤ len) (hj : ¬ SK b i < len) : f_X3_scanCommand q μ = some (0, mst μ q 2 (nI (SK b i))) := by
  have h150 := h.1.1
  have hk := SK_le h.1 hi
  unfold f_X3_scanCommand
  rw [skip_n h h2 (by omega), Option.bind_some, mst_eq, upd_eq, upd_ne (by decide), h.2.1, if_neg (nI_nlt (by omega) (by omega))]
-- the model
theorem b54_end {kk fu : Nat} (h : MX q μ b len) (h9 : μ q 9 = nI e) (he : e ≤ len) (hk : kk ≤ 2) : f_X7_readCommand_b54 q (fu + 1) (nI kk) (nI kk) μ = if b (SK b e) = 59 then some (1, mst μ q 9 (nI (SK b e + 1))) else some (0, mst μ q 9 (nI (SK b e))) := by
  have h150 := h.1.1
  have hk2 := SK_le h.1 he
  have m9 : mst μ q 9 (nI (SK b e)) q 9 = nI (SK b e) := by rw [mst_eq, upd_eq]
  rw [f_X7_readCommand_b54, if_pos (nI_le (a := kk) (b := kk) (Nat.le_refl _) (by omega)), spaces_n h h9 (by omega), Option.bind_some, here_n (h.m9 (by decide)) m9 (by omega), Option.bind_some]
  unfold f_X7_readCommand_b93 f_X7_readCommand_b108
  by_cases c1 : b (SK b e) = 59
  · rw [if_pos c1, if_pos c1, if_neg (by decide), m9, nI_1, pf_e, Option.bind_some, mst_mst]
    rfl
  · rw [if_neg c1, if_neg c1, if_pos rfl, m9, Int32.add_zero, pf_e, Option.bind_some, mst_mst]
    rfl
theorem fin_1 {z : Int32 × Int32 × Nat} (h : b (SK b z.2.2) = 59) : fin b c (Sum.inl z) = Sum.inl (c, z.1, z.2.1, SK b z.2.2 + 1) := if_pos h
theorem fin_0 {z : Int32 × Int32 × Nat} (h : ¬ b (SK b z.2.2) = 59) : fin b c (Sum.inl z) = Sum.inr (SK b z.2.2) := if_neg h
theorem b51_n (h : MX q μ b len) (h9 : μ q 9 = nI e) (he : e ≤ len) (c : Nat) {kk : Nat} (hk : kk ≤ 2) : (∃ v w e' μ', fin b c (nums b kk e) = Sum.inl (c, v, w, e') ∧ e < e' ∧ e' ≤ len ∧ f_X7_readCommand_b51 q (nI kk) μ = some (1, μ') ∧ MF q μ μ' ∧ μ' q 9 = nI e' ∧ μ' q 10 = μ q 10 ∧ (1 ≤ kk → μ' (q + 6) 0 = v) ∧ (kk = 2 → μ' (q + 6) 1 = w)) ∨ (∃ f μ', fin b c (nums b kk e) = Sum.inr f ∧ f_X7_readCommand_b51 q (nI kk) μ = some (0, μ') ∧ MF q μ μ' ∧ μ' q 9 = nI f) := by
  have h150 := h.1.1
  have last : ∀ (M : Mem) (v w : Int32) (e1 fu : Nat), MX q M b len → M q 9 = nI e1 → e ≤ e1 → e1 ≤ len → MF q μ M → M q 10 = μ q 10 → (1 ≤ kk → M (q + 6) 0 = v) → (kk = 2 → M (q + 6) 1 = w) → nums b kk e = Sum.inl (v, w, e1) → (∃ v w e' μ', fin b c (nums b kk e) = Sum.inl (c, v, w, e') ∧ e < e' ∧ e' ≤ len ∧ f_X7_readCommand_b54 q (fu + 1) (nI kk) (nI kk) M = some (1, μ') ∧ MF q μ μ' ∧ μ' q 9 = nI e' ∧ μ' q 10 = μ q 10 ∧ (1 ≤ kk → μ' (q + 6) 0 = v) ∧ (kk = 2 → μ' (q + 6) 1 = w)) ∨ (∃ f μ', fin b c (nums b kk e) = Sum.inr f ∧ f_X7_readCommand_b54 q (fu + 1) (nI kk) (nI kk) M = some (0, μ') ∧ MF q μ μ' ∧ μ' q 9 = nI f) := fun M v w e1 fu hM m9 g1 g2 mF m10 g5 g6 hn => by
    rw [b54_end hM m9 g2 hk, hn]
    have hkg := SK_ge (b := b) (i := e1)
    by_cases c2 : b (SK b e1) = 59
    · have hlt := b32_lt h.1 (by decide) c2
      rw [if_pos c2, fin_1 (z := (v, w, e1)) c2]
      refine Or.inl ⟨v, w, SK b e1 + 1, mst M q 9 (nI (SK b e1 + 1)), rfl, by omega, by omega, rfl, mF.tr (MF.ms (Or.inl rfl)), by rw [mst_eq, upd_eq], ?_, fun z => ?_, fun z => ?_⟩
      · rw [mst_eq, upd_ne (by decide)]
        exact m10
      · rw [mst_ne (by omega)]
        exact g5 z
      · rw [mst_ne (by omega)]
        exact g6 z
    · rw [if_neg c2, fin_0 (z := (v, w, e1)) c2]
      exact Or.inr ⟨SK b e1, _, rfl, rfl, mF.tr (MF.ms (Or.inl rfl)), by rw [mst_eq, upd_eq]⟩
  unfold f_X7_readCommand_b51
  by_cases k0 : kk = 0
  · have e1 := last μ 0 0 e 4095 h h9 (Nat.le_refl _) he MF.rf rfl (fun z => absurd z (by omega)) (fun z => absurd z (by omega)) (by rw [k0]; exact nums_0)
    rw [k0] at e1 ⊢
    exact e1
  · rw [show FU = 4093 + 1 + 1 + 1 from rfl, f_X7_readCommand_b54, if_neg (show ¬ nI kk ≤ (0 : Int32) from nI_nle (by omega) (by omega))]
    rcases readNumber_n (t := 0) (by decide) h h9 he with ⟨z, g1, g2⟩ | ⟨f, M, g1, g2, g3, g4, g5⟩
    · have hz := num_le h.1 g1
      rw [nI_0] at g2
      rw [g2, bn2_some, if_neg (by decide), show (0 : Int32) + 1 = nI 1 from rfl]
      obtain ⟨M, eM⟩ : ∃ M, M = mst (mst μ (q + 6) 0 z.1) q 9 (nI z.2) := ⟨_, rfl⟩
      have mF : MF q μ M := by rw [eM]; exact MF.mn.tr (MF.ms (Or.inl rfl))
      have m9 : M q 9 = nI z.2 := by rw [eM, mst_eq, upd_eq]
      have m10 : M q 10 = μ q 10 := by rw [eM, mst_eq, upd_ne (by decide), mst_ne (by omega)]
      have m60 : M (q + 6) 0 = z.1 := by rw [eM, mst_ne (by omega), mst_eq, upd_eq]
      rw [← eM]
      by_cases k1 : kk = 1
      · have e1 := last M z.1 0 z.2 (4093 + 1) (h.mf mF) m9 (by omega) hz.2 mF m10 (fun _ => m60) (fun y => absurd y (by omega)) (by rw [k1]; exact nums_1 g1)
        rw [k1] at e1 ⊢
        exact e1
      · have k2 : kk = 2 := by omega
        rw [f_X7_readCommand_b54, if_neg (show ¬ nI kk ≤ nI 1 from nI_ge (by omega) (by omega))]
        rcases readNumber_n (t := 1) (by decide) (h.mf mF) m9 hz.2 with ⟨y, s1, s2⟩ | ⟨f, N, s1, s2, s3, s4, s5⟩
        · have hy := num_le h.1 s1
          rw [s2, bn2_some, if_neg (by decide), show nI 1 + 1 = nI 2 from rfl]
          obtain ⟨N, eN⟩ : ∃ N, N = mst (mst M (q + 6) 1 y.1) q 9 (nI y.2) := ⟨_, rfl⟩
          have nF : MF q M N := by rw [eN]; exact MF.mn.tr (MF.ms (Or.inl rfl))
          have n9 : N q 9 = nI y.2 := by rw [eN, mst_eq, upd_eq]
          have n10 : N q 10 = μ q 10 := by rw [eN, mst_eq, upd_ne (by decide), mst_ne (by omega)]; exact m10
          have n60 : N (q + 6) 0 = z.1 := by rw [eN, mst_ne (by omega), mst_eq, upd_ne (by decide)]; exact m60
          have n61 : N (q + 6) 1 = y.1 := by rw [eN, mst_ne (by omega), mst_eq, upd_eq]
          rw [← eN]
          have e1 := last N z.1 y.1 y.2 4093 ((h.mf mF).mf nF) n9 (by omega) hy.2 (mF.tr nF) n10 (fun _ => n60) (fun _ => n61) (by rw [k2]; exact nums_2 g1 s1)
          rw [k2] at e1 ⊢
          exact e1
        · rw [s2, bn2_some, if_pos rfl]
          refine Or.inr ⟨f, N, ?_, rfl, mF.tr ⟨fun t h1 h2 => s4 t h1 h2, fun t h1 _ => s5 t h1⟩, s3⟩
          rw [k2, nums_2f g1 s1]
          rfl
    · rw [nI_0] at g2
      rw [g2, bn2_some, if_pos rfl]
      refine Or.inr ⟨f, M, ?_, rfl, ⟨fun t h1 h2 => g4 t h1 h2, fun t h1 _ => g5 t h1⟩, g3⟩
      rw [nums_f k0 g1]
      rfl
/-- the model's reading of a command -/
theorem readCommand_n (h : MX q μ b len) (h9 : μ q 9 = nI j) (hj : j ≤ len) : (∃ c v w e μ', pc b j = Sum.inl (c, v, w, e) ∧ f_X7_readCommand q μ = some (1, μ') ∧ MF q μ μ' ∧ μ' q 9 = nI e ∧ μ' q 10 = nI c ∧ (1 ≤ kN c → μ' (q + 6) 0 = v) ∧ (kN c = 2 → μ' (q + 6) 1 = w)) ∨ (∃ f μ', pc b j = Sum.inr f ∧ f_X7_readCommand q μ = some (0, μ') ∧ MF q μ μ' ∧ μ' q 9 = nI f) := by
  have h150 := h.1.1
  have hsl := SL_le h.1 hj
  have hc7 := cmdN_lt (b := b) (i := j) (e := SL b j)
  unfold f_X7_readCommand
  rw [readWord_n h h9 hj, bn2_some]
  obtain ⟨M, eM⟩ : ∃ M, M = mst (mst μ q 10 (nI (cmdN b j (SL b j)))) q 9 (nI (if cmdN b j (SL b j) = 0 then j else SL b j)) := ⟨_, rfl⟩
  have mF : MF q μ M := by rw [eM]; exact (MF.ms (Or.inr rfl)).tr (MF.ms (Or.inl rfl))
  have m9 : M q 9 = nI (if cmdN b j (SL b j) = 0 then j else SL b j) := by rw [eM, mst_eq, upd_eq]
  have m10 : M q 10 = nI (cmdN b j (SL b j)) := by rw [eM, mst_eq, upd_ne (by decide), mst_eq, upd_eq]
  rw [← eM]
  by_cases c0 : cmdN b j (SL b j) = 0
  · rw [if_pos c0] at m9
    rw [if_pos c0, if_pos rfl, pc_0 c0]
    exact Or.inr ⟨j, M, rfl, rfl, mF, m9⟩
  · rw [if_neg c0] at m9
    rw [if_neg c0, if_neg (by decide), pc_1 c0, m10]
    have hsw : (if nI (cmdN b j (SL b j)) = 2 then f_X7_readCommand_b51 q 2 M else (if nI (cmdN b j (SL b j)) = 3 then f_X7_readCommand_b51 q 1 M else (if nI (cmdN b j (SL b j)) = 4 then f_X7_readCommand_b51 q 1 M else (if nI (cmdN b j (SL b j)) = 7 then f_X7_readCommand_b51 q 1 M else f_X7_readCommand_b51 q 0 M)))) = f_X7_readCommand_b51 q (nI (kN (cmdN b j (SL b j)))) M := by
      have g0 : ∀ {x : Int32}, x = 0 → f_X7_readCommand_b51 q 0 M = f_X7_readCommand_b51 q x M := fun h => by rw [h]
      have g1 : ∀ {x : Int32}, x = 1 → f_X7_readCommand_b51 q 1 M = f_X7_readCommand_b51 q x M := fun h => by rw [h]
      have g2 : ∀ {x : Int32}, x = 2 → f_X7_readCommand_b51 q 2 M = f_X7_readCommand_b51 q x M := fun h => by rw [h]
      refine c7 (P := fun c => (if nI c = 2 then f_X7_readCommand_b51 q 2 M else (if nI c = 3 then f_X7_readCommand_b51 q 1 M else (if nI c = 4 then f_X7_readCommand_b51 q 1 M else (if nI c = 7 then f_X7_readCommand_b51 q 1 M else f_X7_readCommand_b51 q 0 M)))) = f_X7_readCommand_b51 q (nI (kN c)) M) ?_ ?_ ?_ ?_ ?_ ?_ ?_ (by omega) hc7
      · show (if nI 1 = 2 then f_X7_readCommand_b51 q 2 M else _) = _
        rw [if_neg (show ¬ nI 1 = (2 : Int32) by decide), if_neg (show ¬ nI 1 = (3 : Int32) by decide), if_neg (show ¬ nI 1 = (4 : Int32) by decide), if_neg (show ¬ nI 1 = (7 : Int32) by decide)]
        exact g0 (by decide)
      · show (if nI 2 = 2 then f_X7_readCommand_b51 q 2 M else _) = _
        rw [if_pos (show nI 2 = (2 : Int32) by decide)]
        exact g2 (by decide)
      · show (if nI 3 = 2 then f_X7_readCommand_b51 q 2 M else _) = _
        rw [if_neg (show ¬ nI 3 = (2 : Int32) by decide), if_pos (show nI 3 = (3 : Int32) by decide)]
        exact g1 (by decide)
      · show (if nI 4 = 2 then f_X7_readCommand_b51 q 2 M else _) = _
        rw [if_neg (show ¬ nI 4 = (2 : Int32) by decide), if_neg (show ¬ nI 4 = (3 : Int32) by decide), if_pos (show nI 4 = (4 : Int32) by decide)]
        exact g1 (by decide)
      · show (if nI 5 = 2 then f_X7_readCommand_b51 q 2 M else _) = _
        rw [if_neg (show ¬ nI 5 = (2 : Int32) by decide), if_neg (show ¬ nI 5 = (3 : Int32) by decide), if_neg (show ¬ nI 5 = (4 : Int32) by decide), if_neg (show ¬ nI 5 = (7 : Int32) by decide)]
        exact g0 (by decide)
      · show (if nI 6 = 2 then f_X7_readCommand_b51 q 2 M else _) = _
        rw [if_neg (show ¬ nI 6 = (2 : Int32) by decide), if_neg (show ¬ nI 6 = (3 : Int32) by decide), if_neg (show ¬ nI 6 = (4 : Int32) by decide), if_neg (show ¬ nI 6 = (7 : Int32) by decide)]
        exact g0 (by decide)
      · show (if nI 7 = 2 then f_X7_readCommand_b51 q 2 M else _) = _
        rw [if_neg (show ¬ nI 7 = (2 : Int32) by decide), if_neg (show ¬ nI 7 = (3 : Int32) by decide), if_neg (show ¬ nI 7 = (4 : Int32) by decide), if_pos (show nI 7 = (7 : Int32) by decide)]
        exact g1 (by decide)
    unfold f_X7_readCommand_b46
    rw [hsw]
    rcases b51_n (h.mf mF) m9 hsl (cmdN b j (SL b j)) (kk := kN (cmdN b j (SL b j))) kN_le with ⟨v, w, e', N, g1, g2, g3, g4, g5, g6, g7, g8, g9⟩ | ⟨f, N, g1, g2, g3, g4⟩
    · exact Or.inl ⟨cmdN b j (SL b j), v, w, e', N, g1, g4, mF.tr g5, g6, g7.trans m10, g8, g9⟩
    · exact Or.inr ⟨f, N, g1, g2, mF.tr g3, g4⟩
end PTX3
