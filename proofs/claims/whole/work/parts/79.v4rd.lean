/-! PURE, the reading calls: the steps -/
section PST2
variable {m μ μ' : Mem} {p p' P : Nat → Int32} {n k i j c x len r : Nat} {B C : Int} {v : Int32} {hh hh' : Int64}
theorem key_in (a : Int32) : (∃ k, k < 100 ∧ a = nI k ∧ f_X6_isBelow a 100 = some 1 ∧ f_X7_isKey a = some 1) ∨ (f_X6_isBelow a 100 = some 0 ∧ f_X7_isKey a = some 0) := by
  unfold f_X7_isKey
  rcases below_in a (n := 100) (N := 100) (M := 99) (by decide) (by decide) rfl rfl with ⟨k, hk, e, e1, e2⟩ | ⟨e1, e2⟩
  · exact Or.inl ⟨k, hk, e, e1, by rw [e2]; rfl⟩
  · exact Or.inr ⟨e1, by rw [e2]; rfl⟩
theorem rdr_in (a : Int32) : (∃ k, k < 4 ∧ a = nI k ∧ f_X6_isBelow a 4 = some 1 ∧ f_X7_isReader a = some 1) ∨ (f_X6_isBelow a 4 = some 0 ∧ f_X7_isReader a = some 0) := by
  unfold f_X7_isReader
  rcases below_in a (n := 4) (N := 4) (M := 3) (by decide) (by decide) rfl rfl with ⟨k, hk, e, e1, e2⟩ | ⟨e1, e2⟩
  · exact Or.inl ⟨k, hk, e, e1, by rw [e2]; rfl⟩
  · exact Or.inr ⟨e1, by rw [e2]; rfl⟩
theorem below_in0 (a : Int32) : f_X6_isBelow a (nI 0) = some 0 ∧ f_X7_in a 0 (nI 0 - 1) = some 0 := by
  unfold f_X6_isBelow f_X7_in
  by_cases c : a < 0
  · exact ⟨by rw [if_pos c]; rfl, by rw [if_pos c]; rfl⟩
  · refine ⟨by rw [if_neg c, if_pos (show nI 0 ≤ a from Int32.not_lt.mp c)]; rfl, ?_⟩
    rw [if_neg c, if_pos (Int32.lt_of_lt_of_le (show nI 0 - 1 < 0 by decide) (Int32.not_lt.mp c))]
    rfl
theorem part_in (a b : Int32) {n1 n2 : Nat} {N1 M1 N2 M2 : Int32} (h1 : 0 < n1) (h1' : n1 < 2 ^ 31) (h2 : 0 < n2) (h2' : n2 < 2 ^ 31) (eN1 : N1 = nI n1) (eM1 : M1 = nI (n1 - 1)) (eN2 : N2 = nI n2) (eM2 : M2 = nI (n2 - 1)) : (∃ r w, r < n1 ∧ w < n2 ∧ a = nI r ∧ b = nI w ∧ f_X6_partFault a N1 b N2 = some 0 ∧ f_X7_in a 0 M1 = some 1 ∧ f_X7_in b 0 M2 = some 1) ∨ (f_X6_partFault a N1 b N2 = some 1 ∧ f_X7_in a 0 M1 = some 0) ∨ (f_X6_partFault a N1 b N2 = some 2 ∧ f_X7_in a 0 M1 = some 1 ∧ f_X7_in b 0 M2 = some 0) := by
  unfold f_X6_partFault f_X6_partFault_b23
  rcases below_in a h1 h1' eN1 eM1 with ⟨r, hr, e, e1, e2⟩ | ⟨e1, e2⟩
  · rcases below_in b h2 h2' eN2 eM2 with ⟨w, hw, f, f1, f2⟩ | ⟨f1, f2⟩
    · exact Or.inl ⟨r, w, hr, hw, e, f, by rw [e1, Option.bind_some, if_neg (by decide), f1, Option.bind_some, if_neg (by decide)], e2, f2⟩
    · exact Or.inr (Or.inr ⟨by rw [e1, Option.bind_some, if_neg (by decide), f1, Option.bind_some, if_pos rfl], e2, f2⟩)
  · exact Or.inr (Or.inl ⟨by rw [e1, Option.bind_some, if_pos rfl], e2⟩)
theorem T6 {k : Int32} : mst μ 85 6 k 85 6 = k := by rw [mst_eq, upd_eq]
theorem T1 {k : Int32} : mst μ 85 6 k (85 + 1) = μ 86 := mst_ne (by decide)
theorem r466 {f : Nat → Int32} : rd 470 f 466 = some (f 466) := rd_c (i := 466) 466 rfl (by decide) (by decide)
theorem st_7 (hJ : Jinv n μ hh) (a1 a2 : Int32) : ∃ μ', St_7 a1 a2 μ μ' ∧ Jinv (n + 1) μ' hh := by
  have hG := hJ.1
  have hI := hJ.2.1
  rcases key_in a1 with ⟨k, hk, rfl, e1, e2⟩ | ⟨e1, e2⟩
  · refine ⟨mst μ 85 6 0, Or.inl ⟨vby (μ 86) (cd (μ 86)) (nI k), ?_, ?_, thr6⟩, hJ.j6 0⟩
    · unfold f_X6_get f_X6_keyFault f_X6_keyFault_b14
      rw [e1, Option.bind_some, if_neg (by decide), Option.bind_some, refuse0, Option.bind_some, Nat.zero_add, hG.currentValue hI, Option.bind_some]
    · unfold f_X7_get f_X7_get_b29
      rw [pf_e, Option.bind_some, e2, Option.bind_some, if_neg (by decide), now_n (d := cd (μ 86)) (by rw [T1]; exact hI.2.2.1.1), Option.bind_some, valueBy_n (by rw [T1]; exact hI.2.2.1.2.1), T1, Option.bind_some]
  · refine ⟨mst (mst μ 85 6 0) 85 6 1, Or.inr ⟨?_, 0, ?_, thr6⟩, hJ.j66 1 0⟩
    · unfold f_X6_get_t f_X6_keyFault f_X6_keyFault_b14
      rw [e1, Option.bind_some, if_pos rfl, Option.bind_some, rfx_2]
    · unfold f_X7_get f_X7_get_b29
      rw [pf_e, Option.bind_some, e2, Option.bind_some, if_pos rfl, fails_e, bn2_some]
theorem st_8 (hJ : Jinv n μ hh) (a1 a2 : Int32) : ∃ μ', St_8 a1 a2 μ μ' ∧ Jinv (n + 1) μ' hh := by
  have hG := hJ.1
  have hI := hJ.2.1
  have e6 : μ 1 6 = μ 86 466 := hG.2.2.2.1
  have eF : ∀ x : Int32, f_X4_draftedFault 1 a1 μ = some x → f_X4_draftedFault (0 + 1) a1 μ = some x := fun x h => h
  rcases key_in a1 with ⟨k, hk, rfl, e1, e2⟩ | ⟨e1, e2⟩
  · rcases hI.2.2.2.2.1 with c0 | c1
    · have hF : f_X4_draftedFault 1 (nI k) μ = some 3 := by
        unfold f_X4_draftedFault f_X4_draftedFault_b23
        rw [e1, Option.bind_some, if_neg (by decide), e6, if_pos c0]
      refine ⟨mst μ 85 6 2, Or.inr (Or.inr ⟨?_, 0, ?_, thr6⟩), hJ.j6 2⟩
      · unfold f_X6_drafted_t
        rw [eF _ hF, Option.bind_some, rfx_3]
      · unfold f_X7_drafted
        rw [e2, Option.bind_some, if_neg (by decide), r466, Option.bind_some, if_pos (show μ (85 + 1) 466 = 0 from c0)]
        unfold f_X7_drafted_b28
        rw [pf_e, Option.bind_some, T6, if_neg (by decide)]
        rfl
    · have hF : f_X4_draftedFault 1 (nI k) μ = some 0 := by
        unfold f_X4_draftedFault f_X4_draftedFault_b23
        rw [e1, Option.bind_some, if_neg (by decide), e6, if_neg (by rw [c1]; decide)]
      refine ⟨mst μ 85 6 0, Or.inl ⟨vby (μ 86) (drd (μ 86)) (nI k), ?_, ?_, thr6⟩, hJ.j6 0⟩
      · unfold f_X6_drafted
        rw [eF _ hF, Option.bind_some, refuse0, Option.bind_some, Nat.zero_add, hG.draftedValue hI c1, Option.bind_some]
      · unfold f_X7_drafted
        rw [e2, Option.bind_some, if_neg (by decide), r466, Option.bind_some, if_neg (show ¬ μ (85 + 1) 466 = 0 from fun z => absurd (c1.symm.trans z) (by decide))]
        unfold f_X7_drafted_b28
        unfold f_X7_drafted_b51
        rw [pf_e, Option.bind_some, T6, if_pos rfl, drafts_n (B := BN n) (by rw [T1]; exact hI), T1, Option.bind_some, valueBy_n (by rw [T1]; exact hI.dd.2), T1, Option.bind_some]
  · have hF : f_X4_draftedFault 1 a1 μ = some 2 := by
      unfold f_X4_draftedFault
      rw [e1, Option.bind_some, if_pos rfl]
    refine ⟨mst μ 85 6 1, Or.inr (Or.inl ⟨?_, 0, ?_, thr6⟩), hJ.j6 1⟩
    · unfold f_X6_drafted_t
      rw [eF _ hF, Option.bind_some, rfx_2]
    · unfold f_X7_drafted
      rw [e2, Option.bind_some, if_pos rfl]
      unfold f_X7_drafted_b28
      rw [pf_e, Option.bind_some, T6, if_neg (by decide)]
      rfl
theorem st_16 (hJ : Jinv n μ hh) (a1 a2 : Int32) : ∃ μ', St_16 a1 a2 μ μ' ∧ Jinv (n + 1) μ' hh := by
  have hG := hJ.1
  have hI := hJ.2.1
  have e6 : μ 1 6 = μ 86 466 := hG.2.2.2.1
  have eF : ∀ x : Int32, f_X4_draftedFault 1 a1 μ = some x → f_X4_draftedFault (0 + 1) a1 μ = some x := fun x h => h
  rcases key_in a1 with ⟨k, hk, rfl, e1, e2⟩ | ⟨e1, e2⟩
  · rcases hI.2.2.2.2.1 with c0 | c1
    · have hF : f_X4_draftedFault 1 (nI k) μ = some 3 := by
        unfold f_X4_draftedFault f_X4_draftedFault_b23
        rw [e1, Option.bind_some, if_neg (by decide), e6, if_pos c0]
      refine ⟨mst μ 85 6 2, Or.inr (Or.inr ⟨?_, 0, ?_, thr6⟩), hJ.j6 2⟩
      · unfold f_X6_bedsFor_t
        rw [eF _ hF, Option.bind_some, rfx_3]
      · unfold f_X7_bedsFor
        rw [e2, Option.bind_some, if_neg (by decide), r466, Option.bind_some, if_pos (show μ (85 + 1) 466 = 0 from c0)]
        unfold f_X7_bedsFor_b28
        rw [pf_e, Option.bind_some, T6, if_neg (by decide)]
        rfl
    · have hF : f_X4_draftedFault 1 (nI k) μ = some 0 := by
        unfold f_X4_draftedFault f_X4_draftedFault_b23
        rw [e1, Option.bind_some, if_neg (by decide), e6, if_neg (by rw [c1]; decide)]
      refine ⟨mst μ 85 6 0, Or.inl ⟨oI (-1000) (bofn (μ 86) (nI k)), ?_, ?_, thr6⟩, hJ.j6 0⟩
      · unfold f_X6_bedsFor
        rw [eF _ hF, Option.bind_some, refuse0, Option.bind_some, Nat.zero_add, hG.digsToPut hI c1, Option.bind_some]
      · unfold f_X7_bedsFor
        rw [e2, Option.bind_some, if_neg (by decide), r466, Option.bind_some, if_neg (show ¬ μ (85 + 1) 466 = 0 from fun z => absurd (c1.symm.trans z) (by decide))]
        unfold f_X7_bedsFor_b28
        unfold f_X7_bedsFor_b47
        rw [pf_e, Option.bind_some, T6, if_pos rfl, bedsOf_n (B := BN n) (by rw [T1]; exact hI), T1, Option.bind_some]
  · have hF : f_X4_draftedFault 1 a1 μ = some 2 := by
      unfold f_X4_draftedFault
      rw [e1, Option.bind_some, if_pos rfl]
    refine ⟨mst μ 85 6 1, Or.inr (Or.inl ⟨?_, 0, ?_, thr6⟩), hJ.j6 1⟩
    · unfold f_X6_bedsFor_t
      rw [eF _ hF, Option.bind_some, rfx_2]
    · unfold f_X7_bedsFor
      rw [e2, Option.bind_some, if_pos rfl]
      unfold f_X7_bedsFor_b28
      rw [pf_e, Option.bind_some, T6, if_neg (by decide)]
      rfl
theorem st_17 (hJ : Jinv n μ hh) (a1 a2 : Int32) : ∃ μ', St_17 a1 a2 μ μ' ∧ Jinv (n + 1) μ' hh := by
  have hG := hJ.1
  have hI := hJ.2.1
  have e6 : μ 1 6 = μ 86 466 := hG.2.2.2.1
  have eF : ∀ x : Int32, f_X4_draftedFault 1 a1 μ = some x → f_X4_draftedFault (0 + 1) a1 μ = some x := fun x h => h
  rcases key_in a1 with ⟨k, hk, rfl, e1, e2⟩ | ⟨e1, e2⟩
  · rcases hI.2.2.2.2.1 with c0 | c1
    · have hF : f_X4_draftedFault 1 (nI k) μ = some 3 := by
        unfold f_X4_draftedFault f_X4_draftedFault_b23
        rw [e1, Option.bind_some, if_neg (by decide), e6, if_pos c0]
      refine ⟨mst μ 85 6 2, Or.inr (Or.inr ⟨?_, 0, ?_, thr6⟩), hJ.j6 2⟩
      · unfold f_X6_reason_t
        rw [eF _ hF, Option.bind_some, rfx_3]
      · unfold f_X7_reason
        rw [e2, Option.bind_some, if_neg (by decide), r466, Option.bind_some, if_pos (show μ (85 + 1) 466 = 0 from c0)]
        unfold f_X7_reason_b28
        rw [pf_e, Option.bind_some, T6, if_neg (by decide)]
    · have hF : f_X4_draftedFault 1 (nI k) μ = some 0 := by
        unfold f_X4_draftedFault f_X4_draftedFault_b23
        rw [e1, Option.bind_some, if_neg (by decide), e6, if_neg (by rw [c1]; decide)]
      refine ⟨mst μ 85 6 0, Or.inl ⟨(match bofn (μ 86) (nI k) with | none => 1 | some n => if many (μ 86) < n then 2 else 0), ?_, ?_, thr6⟩, hJ.j6 0⟩
      · unfold f_X6_reason
        rw [eF _ hF, Option.bind_some, refuse0, Option.bind_some, Nat.zero_add, hG.hindrance hI c1, Option.bind_some]
        rfl
      · unfold f_X7_reason
        rw [e2, Option.bind_some, if_neg (by decide), r466, Option.bind_some, if_neg (show ¬ μ (85 + 1) 466 = 0 from fun z => absurd (c1.symm.trans z) (by decide))]
        unfold f_X7_reason_b28
        unfold f_X7_reason_b70
        rw [pf_e, Option.bind_some, T6, if_pos (by decide), bedsOf_n (B := BN n) (by rw [T1]; exact hI), T1, Option.bind_some]
        cases eb : bofn (μ 86) (nI k) with
        | none =>
          rw [if_pos (show oI (-1000) none = -1000 from rfl)]
        | some n =>
          have hn3 := bofn_le eb
          have hmm : many (μ 86) ≤ 32 := ct_le 32
          rw [if_neg (show ¬ oI (-1000) (some n) = -1000 from not_none (nI_pos' (by omega))), manyToDig_n, T1, Option.bind_some, show oI (-1000) (some n) = nI n from rfl]
          show _ = some ((if many (μ 86) < n then (2 : Int32) else 0), _)
          by_cases c3 : many (μ 86) < n
          · rw [if_pos c3, if_neg (nI_ge c3 (by omega))]
          · rw [if_neg c3, if_pos (nI_le (by omega) (by omega))]
  · have hF : f_X4_draftedFault 1 a1 μ = some 2 := by
      unfold f_X4_draftedFault
      rw [e1, Option.bind_some, if_pos rfl]
    refine ⟨mst μ 85 6 1, Or.inr (Or.inl ⟨?_, 0, ?_, thr6⟩), hJ.j6 1⟩
    · unfold f_X6_reason_t
      rw [eF _ hF, Option.bind_some, rfx_2]
    · unfold f_X7_reason
      rw [e2, Option.bind_some, if_pos rfl]
      unfold f_X7_reason_b28
      rw [pf_e, Option.bind_some, T6, if_neg (by decide)]
theorem RG.diff_b4 {g : Nat} (h : RG g μ p) (hi : INV B p) (hr4 : r < 4) (ho : gD p r 0 = 1) : ∀ (n k fu : Nat) (a : Int32), k + n = 100 → n < fu → f_X4_differencesTo_b4 g fu (nI r) a (nI k) μ = some (lp (fun j (x : Int32) => x + (if vby p (cd p) (nI j) = vby p (rdp p r) (nI j) then 0 else 1)) n k a) := by
  intro n
  induction n with
  | zero =>
    intro k fu a hk hf
    obtain ⟨fu, rfl⟩ : ∃ z, fu = z + 1 := ⟨fu - 1, by omega⟩
    rw [f_X4_differencesTo_b4, if_pos (lI (c := 100) 100 k rfl (by omega) (by omega))]
    rfl
  | succ n ih =>
    intro k fu a hk hf
    obtain ⟨fu, rfl⟩ : ∃ z, fu = z + 1 := ⟨fu - 1, by omega⟩
    rw [f_X4_differencesTo_b4, if_neg (nlI (c := 100) 100 k rfl (by omega) (by omega)), h.readerValue hi hr4 ho, Option.bind_some, h.currentValue hi, Option.bind_some]
    unfold f_X4_differencesTo_b30
    rw [show f_X6_one 0 = some 0 from rfl, show f_X6_one 1 = some 1 from rfl, Option.bind_some, Option.bind_some, nI_1, ih (k + 1) fu _ (by omega) (by omega), ih (k + 1) fu _ (by omega) (by omega)]
    show _ = some (lp _ n (k + 1) (a + (if vby p (cd p) (nI k) = vby p (rdp p r) (nI k) then 0 else 1)))
    by_cases c : vby p (cd p) (nI k) = vby p (rdp p r) (nI k)
    · rw [if_pos c.symm, if_pos c]
    · rw [if_neg (fun z => c z.symm), if_neg c]
theorem chg_b33 {q : Nat} (hi : INV B (μ (q + 1))) (hr4 : r < 4) (ho : gD (μ (q + 1)) r 0 = 1) (h6 : μ q 6 = 0) : ∀ (n k fu : Nat) (a : Int32), k + n = 100 → n < fu → f_X7_changedSince_b33 q fu (nI r) a (nI k) μ = some (lp (fun j (x : Int32) => x + (if vby (μ (q + 1)) (cd (μ (q + 1))) (nI j) = vby (μ (q + 1)) (rdp (μ (q + 1)) r) (nI j) then 0 else 1)) n k a, μ) := by
  have hR := hi.2.2.2.1 r hr4 ho
  intro n
  induction n with
  | zero =>
    intro k fu a hk hf
    obtain ⟨fu, rfl⟩ : ∃ z, fu = z + 1 := ⟨fu - 1, by omega⟩
    rw [f_X7_changedSince_b33, if_pos (lI (c := 100) 100 k rfl (by omega) (by omega))]
    rfl
  | succ n ih =>
    intro k fu a hk hf
    obtain ⟨fu, rfl⟩ : ∃ z, fu = z + 1 := ⟨fu - 1, by omega⟩
    rw [f_X7_changedSince_b33, if_neg (nlI (c := 100) 100 k rfl (by omega) (by omega)), h6, if_pos rfl, now_n (d := cd (μ (q + 1))) hi.2.2.1.1, Option.bind_some, valueBy_n hi.2.2.1.2.1, Option.bind_some, ofReader_c (x := 2) (r := r) 2 rfl hr4 (by decide), Option.bind_some, hR.1, valueBy_n hR.2.1, Option.bind_some]
    unfold f_X7_changedSince_b75
    rw [nI_1, ih (k + 1) fu _ (by omega) (by omega), ih (k + 1) fu _ (by omega) (by omega)]
    show _ = some (lp _ n (k + 1) (a + (if vby (μ (q + 1)) (cd (μ (q + 1))) (nI k) = vby (μ (q + 1)) (rdp (μ (q + 1)) r) (nI k) then 0 else 1)), μ)
    by_cases c : vby (μ (q + 1)) (cd (μ (q + 1))) (nI k) = vby (μ (q + 1)) (rdp (μ (q + 1)) r) (nI k)
    · rw [if_pos c, if_pos c]
    · rw [if_neg c, if_neg c]
theorem st_18 (hJ : Jinv n μ hh) (a1 a2 : Int32) : ∃ μ', St_18 a1 a2 μ μ' ∧ Jinv (n + 1) μ' hh := by
  have hG := hJ.1
  have hI := hJ.2.1
  have eF : ∀ x : Int32, f_X4_openReaderFault 1 a1 μ = some x → f_X4_openReaderFault (0 + 1) a1 μ = some x := fun x h => h
  rcases rdr_in a1 with ⟨r, hr, rfl, e1, e2⟩ | ⟨e1, e2⟩
  · rcases (hI.1.2.2 r hr).1 with c0 | c1
    · have hF : f_X4_openReaderFault 1 (nI r) μ = some 3 := by
        unfold f_X4_openReaderFault f_X4_openReaderFault_b23
        rw [e1, Option.bind_some, if_neg (by decide), hG.isOpen hI.1 hr, Option.bind_some, if_pos c0]
      refine ⟨mst μ 85 6 2, Or.inr (Or.inr ⟨?_, 0, ?_, thr6⟩), hJ.j6 2⟩
      · unfold f_X6_neededWithout_t
        rw [eF _ hF, Option.bind_some, rfx_3]
      · unfold f_X7_neededWithout
        rw [e2, Option.bind_some, if_neg (by decide), ofReader_c (x := 0) (r := r) 0 rfl hr (by decide), Option.bind_some, if_pos (show gD (μ (85 + 1)) r 0 = 0 from c0)]
        unfold f_X7_neededWithout_b26
        rw [pf_e, Option.bind_some, T6, if_neg (by decide)]
        rfl
    · have hF : f_X4_openReaderFault 1 (nI r) μ = some 0 := by
        unfold f_X4_openReaderFault f_X4_openReaderFault_b23
        rw [e1, Option.bind_some, if_neg (by decide), hG.isOpen hI.1 hr, Option.bind_some, if_neg (by rw [c1]; decide)]
      refine ⟨mst μ 85 6 0, Or.inl ⟨need (μ 86) (nI r), ?_, ?_, thr6⟩, hJ.j6 0⟩
      · unfold f_X6_neededWithout
        rw [eF _ hF, Option.bind_some, refuse0, Option.bind_some, Nat.zero_add]
        rw [hG.neededBut hI.1 (nI r) (nI r) (fun _ _ => Iff.rfl), Option.bind_some]
      · unfold f_X7_neededWithout
        rw [e2, Option.bind_some, if_neg (by decide), ofReader_c (x := 0) (r := r) 0 rfl hr (by decide), Option.bind_some, if_neg (show ¬ gD (μ (85 + 1)) r 0 = 0 from fun z => absurd (c1.symm.trans z) (by decide))]
        unfold f_X7_neededWithout_b26 f_X7_neededWithout_b45
        rw [pf_e, Option.bind_some, T6, if_pos rfl, needed_n, T1, Option.bind_some]
  · have hF : f_X4_openReaderFault 1 a1 μ = some 1 := by
      unfold f_X4_openReaderFault
      rw [e1, Option.bind_some, if_pos rfl]
    refine ⟨mst μ 85 6 1, Or.inr (Or.inl ⟨?_, 0, ?_, thr6⟩), hJ.j6 1⟩
    · unfold f_X6_neededWithout_t
      rw [eF _ hF, Option.bind_some, rfx_1]
    · unfold f_X7_neededWithout
      rw [e2, Option.bind_some, if_pos rfl]
      unfold f_X7_neededWithout_b26
      rw [pf_e, Option.bind_some, T6, if_neg (by decide)]
      rfl
theorem st_19 (hJ : Jinv n μ hh) (a1 a2 : Int32) : ∃ μ', St_19 a1 a2 μ μ' ∧ Jinv (n + 1) μ' hh := by
  have hG := hJ.1
  have hI := hJ.2.1
  have eF : ∀ x : Int32, f_X4_openReaderFault 1 a1 μ = some x → f_X4_openReaderFault (0 + 1) a1 μ = some x := fun x h => h
  rcases rdr_in a1 with ⟨r, hr, rfl, e1, e2⟩ | ⟨e1, e2⟩
  · rcases (hI.1.2.2 r hr).1 with c0 | c1
    · have hF : f_X4_openReaderFault 1 (nI r) μ = some 3 := by
        unfold f_X4_openReaderFault f_X4_openReaderFault_b23
        rw [e1, Option.bind_some, if_neg (by decide), hG.isOpen hI.1 hr, Option.bind_some, if_pos c0]
      refine ⟨mst μ 85 6 2, Or.inr (Or.inr ⟨?_, 0, ?_, thr6⟩), hJ.j6 2⟩
      · unfold f_X6_changedSince_t
        rw [eF _ hF, Option.bind_some, rfx_3]
      · unfold f_X7_changedSince
        rw [e2, Option.bind_some, if_neg (by decide), ofReader_c (x := 0) (r := r) 0 rfl hr (by decide), Option.bind_some, if_pos (show gD (μ (85 + 1)) r 0 = 0 from c0)]
        unfold f_X7_changedSince_b26
        rw [pf_e, Option.bind_some, show FU = 4095 + 1 from rfl, f_X7_changedSince_b33, if_neg (by decide), T6, if_neg (by decide)]
        rfl
    · have hF : f_X4_openReaderFault 1 (nI r) μ = some 0 := by
        unfold f_X4_openReaderFault f_X4_openReaderFault_b23
        rw [e1, Option.bind_some, if_neg (by decide), hG.isOpen hI.1 hr, Option.bind_some, if_neg (by rw [c1]; decide)]
      refine ⟨mst μ 85 6 0, Or.inl ⟨lp (fun j (x : Int32) => x + (if vby (μ 86) (cd (μ 86)) (nI j) = vby (μ 86) (rdp (μ 86) r) (nI j) then 0 else 1)) 100 0 0, ?_, ?_, thr6⟩, hJ.j6 0⟩
      · unfold f_X6_changedSince
        rw [eF _ hF, Option.bind_some, refuse0, Option.bind_some, Nat.zero_add]
        have e := hG.diff_b4 hI hr c1 100 0 FU 0 (by omega) (by decide)
        rw [nI_0] at e
        unfold f_X4_differencesTo
        rw [e, Option.bind_some]
      · unfold f_X7_changedSince
        rw [e2, Option.bind_some, if_neg (by decide), ofReader_c (x := 0) (r := r) 0 rfl hr (by decide), Option.bind_some, if_neg (show ¬ gD (μ (85 + 1)) r 0 = 0 from fun z => absurd (c1.symm.trans z) (by decide))]
        unfold f_X7_changedSince_b26
        have e := chg_b33 (q := 85) (μ := mst μ 85 6 0) (B := BN n) (by rw [T1]; exact hI) hr (by rw [T1]; exact c1) T6 100 0 FU 0 (by omega) (by decide)
        rw [nI_0, T1] at e
        rw [pf_e, Option.bind_some, e]
  · have hF : f_X4_openReaderFault 1 a1 μ = some 1 := by
      unfold f_X4_openReaderFault
      rw [e1, Option.bind_some, if_pos rfl]
    refine ⟨mst μ 85 6 1, Or.inr (Or.inl ⟨?_, 0, ?_, thr6⟩), hJ.j6 1⟩
    · unfold f_X6_changedSince_t
      rw [eF _ hF, Option.bind_some, rfx_1]
    · unfold f_X7_changedSince
      rw [e2, Option.bind_some, if_pos rfl]
      unfold f_X7_changedSince_b26
      rw [pf_e, Option.bind_some, show FU = 4095 + 1 from rfl, f_X7_changedSince_b33, if_neg (by decide), T6, if_neg (by decide)]
      rfl
theorem st_11 (hJ : Jinv n μ hh) (a1 a2 : Int32) : ∃ μ', St_11 a1 a2 μ μ' ∧ Jinv (n + 1) μ' hh := by
  have hG := hJ.1
  have hI := hJ.2.1
  rcases part_in a1 a2 (n1 := 2) (n2 := 4) (N1 := 2) (M1 := 1) (N2 := 4) (M2 := 3) (by decide) (by decide) (by decide) (by decide) rfl rfl rfl rfl with ⟨r, w, hr, hw, rfl, rfl, e1, e2, e3⟩ | ⟨e1, e2⟩ | ⟨e1, e2, e3⟩
  · refine ⟨mst μ 85 6 0, Or.inl ⟨troot (μ 86) r w, ?_, ?_, thr6⟩, hJ.j6 0⟩
    · unfold f_X6_root
      rw [e1, Option.bind_some, refuse0, Option.bind_some, Nat.zero_add, hG.rootPart hI.1 hr hw, Option.bind_some]
    · unfold f_X7_root f_X7_root_b28
      rw [e2, Option.bind_some, if_neg (by decide), e3, Option.bind_some, if_neg (by decide), pf_e, Option.bind_some, T6, if_pos rfl, tellRoot_n hr hw, T1, Option.bind_some]
      rfl
  · refine ⟨mst μ 85 6 1, Or.inr (Or.inl ⟨?_, 0, ?_, thr6⟩), hJ.j6 1⟩
    · unfold f_X6_root_t
      rw [e1, Option.bind_some, rfx_1]
    · unfold f_X7_root f_X7_root_b28
      rw [e2, Option.bind_some, if_pos rfl, pf_e, Option.bind_some, T6, if_neg (by decide)]
      rfl
  · refine ⟨mst μ 85 6 2, Or.inr (Or.inr ⟨?_, 0, ?_, thr6⟩), hJ.j6 2⟩
    · unfold f_X6_root_t
      rw [e1, Option.bind_some, rfx_2]
    · unfold f_X7_root f_X7_root_b28
      rw [e2, Option.bind_some, if_neg (by decide), e3, Option.bind_some, if_pos rfl, pf_e, Option.bind_some, T6, if_neg (by decide)]
      rfl
theorem st_12 (hJ : Jinv n μ hh) (a1 a2 : Int32) : ∃ μ', St_12 a1 a2 μ μ' ∧ Jinv (n + 1) μ' hh := by
  have hG := hJ.1
  have hI := hJ.2.1
  rcases part_in a1 a2 (n1 := 4) (n2 := 3) (N1 := 4) (M1 := 3) (N2 := 3) (M2 := 2) (by decide) (by decide) (by decide) (by decide) rfl rfl rfl rfl with ⟨r, w, hr, hw, rfl, rfl, e1, e2, e3⟩ | ⟨e1, e2⟩ | ⟨e1, e2, e3⟩
  · refine ⟨mst μ 85 6 0, Or.inl ⟨trd (μ 86) r w, ?_, ?_, thr6⟩, hJ.j6 0⟩
    · unfold f_X6_reader
      rw [e1, Option.bind_some, refuse0, Option.bind_some, Nat.zero_add, hG.readerPart hI hr hw, Option.bind_some]
    · unfold f_X7_reader f_X7_reader_b26 f_X7_isReader
      rw [e2, Option.bind_some, show zr 1 = some 1 from rfl, Option.bind_some, Option.bind_some, if_neg (by decide), e3, Option.bind_some, if_neg (by decide), pf_e, Option.bind_some, T6, if_pos rfl, tellReader_n (B := BN n) (by rw [T1]; exact hI) hr hw, T1, Option.bind_some]
      rfl
  · refine ⟨mst μ 85 6 1, Or.inr (Or.inl ⟨?_, 0, ?_, thr6⟩), hJ.j6 1⟩
    · unfold f_X6_reader_t
      rw [e1, Option.bind_some, rfx_1]
    · unfold f_X7_reader f_X7_reader_b26 f_X7_isReader
      rw [e2, Option.bind_some, show zr 0 = some 0 from rfl, Option.bind_some, Option.bind_some, if_pos rfl, pf_e, Option.bind_some, T6, if_neg (by decide)]
      rfl
  · refine ⟨mst μ 85 6 2, Or.inr (Or.inr ⟨?_, 0, ?_, thr6⟩), hJ.j6 2⟩
    · unfold f_X6_reader_t
      rw [e1, Option.bind_some, rfx_2]
    · unfold f_X7_reader f_X7_reader_b26 f_X7_isReader
      rw [e2, Option.bind_some, show zr 1 = some 1 from rfl, Option.bind_some, Option.bind_some, if_neg (by decide), e3, Option.bind_some, if_pos rfl, pf_e, Option.bind_some, T6, if_neg (by decide)]
      rfl
theorem st_13 (hJ : Jinv n μ hh) (a1 a2 : Int32) : ∃ μ', St_13 a1 a2 μ μ' ∧ Jinv (n + 1) μ' hh := by
  have hG := hJ.1
  have hI := hJ.2.1
  rcases part_in a1 a2 (n1 := 32) (n2 := 6) (N1 := 32) (M1 := 31) (N2 := 6) (M2 := 5) (by decide) (by decide) (by decide) (by decide) rfl rfl rfl rfl with ⟨r, w, hr, hw, rfl, rfl, e1, e2, e3⟩ | ⟨e1, e2⟩ | ⟨e1, e2, e3⟩
  · refine ⟨mst μ 85 6 0, Or.inl ⟨tbed (μ 86) r w, ?_, ?_, thr6⟩, hJ.j6 0⟩
    · unfold f_X6_bed
      rw [e1, Option.bind_some, refuse0, Option.bind_some, Nat.zero_add, hG.bedPart hI.1 hr hw, Option.bind_some]
    · unfold f_X7_bed f_X7_bed_b29
      rw [e2, Option.bind_some, if_neg (by decide), e3, Option.bind_some, if_neg (by decide), pf_e, Option.bind_some, T6, if_pos rfl, tellBed_n hr hw, T1, Option.bind_some]
      rfl
  · refine ⟨mst μ 85 6 1, Or.inr (Or.inl ⟨?_, 0, ?_, thr6⟩), hJ.j6 1⟩
    · unfold f_X6_bed_t
      rw [e1, Option.bind_some, rfx_1]
    · unfold f_X7_bed f_X7_bed_b29
      rw [e2, Option.bind_some, if_pos rfl, pf_e, Option.bind_some, T6, if_neg (by decide)]
      rfl
  · refine ⟨mst μ 85 6 2, Or.inr (Or.inr ⟨?_, 0, ?_, thr6⟩), hJ.j6 2⟩
    · unfold f_X6_bed_t
      rw [e1, Option.bind_some, rfx_2]
    · unfold f_X7_bed f_X7_bed_b29
      rw [e2, Option.bind_some, if_neg (by decide), e3, Option.bind_some, if_pos rfl, pf_e, Option.bind_some, T6, if_neg (by decide)]
      rfl
theorem st_9 (hJ : Jinv n μ hh) (a1 a2 : Int32) : ∃ μ', St_9 a1 a2 μ μ' ∧ Jinv (n + 1) μ' hh := by
  have hG := hJ.1
  have hI := hJ.2.1
  have eF : ∀ x : Int32, f_X4_readFault 1 a1 a2 μ = some x → f_X4_readFault (0 + 1) a1 a2 μ = some x := fun x h => h
  rcases rdr_in a1 with ⟨r, hr, rfl, e1, e2⟩ | ⟨e1, e2⟩
  · rcases key_in a2 with ⟨k, hk, rfl, f1, f2⟩ | ⟨f1, f2⟩
    · rcases (hI.1.2.2 r hr).1 with c0 | c1
      · have hF : f_X4_readFault 1 (nI r) (nI k) μ = some 3 := by
          unfold f_X4_readFault f_X4_readFault_b34
          rw [e1, Option.bind_some, if_neg (by decide), f1, Option.bind_some, if_neg (by decide), hG.isOpen hI.1 hr, Option.bind_some, if_pos c0]
        refine ⟨mst μ 85 6 3, Or.inr (Or.inr (Or.inr ⟨?_, 0, ?_, thr6⟩)), hJ.j6 3⟩
        · unfold f_X6_read_t
          rw [eF _ hF, Option.bind_some, rfx_3]
        · unfold f_X7_read f_X7_read_b37 f_X7_read_b62
          rw [e2, Option.bind_some, if_neg (by decide), f2, Option.bind_some, if_neg (by decide), ofReader_c (x := 0) (r := r) 0 rfl hr (by decide), Option.bind_some, if_pos (show gD (μ (85 + 1)) r 0 = 0 from c0), pf_e, Option.bind_some, T6, if_neg (by decide)]
      · have hF : f_X4_readFault 1 (nI r) (nI k) μ = some 0 := by
          unfold f_X4_readFault f_X4_readFault_b34
          rw [e1, Option.bind_some, if_neg (by decide), f1, Option.bind_some, if_neg (by decide), hG.isOpen hI.1 hr, Option.bind_some, if_neg (by rw [c1]; decide)]
        have hR := hI.2.2.2.1 r hr c1
        refine ⟨mst μ 85 6 0, Or.inl ⟨vby (μ 86) (rdp (μ 86) r) (nI k), ?_, ?_, thr6⟩, hJ.j6 0⟩
        · unfold f_X6_read
          rw [eF _ hF, Option.bind_some, refuse0, Option.bind_some, Nat.zero_add, hG.readerValue hI hr c1, Option.bind_some]
        · unfold f_X7_read f_X7_read_b37 f_X7_read_b62
          rw [e2, Option.bind_some, if_neg (by decide), f2, Option.bind_some, if_neg (by decide), ofReader_c (x := 0) (r := r) 0 rfl hr (by decide), Option.bind_some, if_neg (show ¬ gD (μ (85 + 1)) r 0 = 0 from fun z => absurd (c1.symm.trans z) (by decide)), pf_e, Option.bind_some, T6, if_pos rfl, ofReader_c (x := 2) (r := r) 2 rfl hr (by decide), T1, Option.bind_some, hR.1, valueBy_n (by rw [T1]; exact hR.2.1), T1, Option.bind_some]
    · have hF : f_X4_readFault 1 (nI r) a2 μ = some 2 := by
        unfold f_X4_readFault
        rw [e1, Option.bind_some, if_neg (by decide), f1, Option.bind_some, if_pos rfl]
      refine ⟨mst μ 85 6 2, Or.inr (Or.inr (Or.inl ⟨?_, 0, ?_, thr6⟩)), hJ.j6 2⟩
      · unfold f_X6_read_t
        rw [eF _ hF, Option.bind_some, rfx_2]
      · unfold f_X7_read f_X7_read_b37 f_X7_read_b62
        rw [e2, Option.bind_some, if_neg (by decide), f2, Option.bind_some, if_pos rfl, pf_e, Option.bind_some, T6, if_neg (by decide)]
  · have hF : f_X4_readFault 1 a1 a2 μ = some 1 := by
      unfold f_X4_readFault
      rw [e1, Option.bind_some, if_pos rfl]
    refine ⟨mst μ 85 6 1, Or.inr (Or.inl ⟨?_, 0, ?_, thr6⟩), hJ.j6 1⟩
    · unfold f_X6_read_t
      rw [eF _ hF, Option.bind_some, rfx_1]
    · unfold f_X7_read f_X7_read_b37 f_X7_read_b62
      rw [e2, Option.bind_some, if_pos rfl, pf_e, Option.bind_some, T6, if_neg (by decide)]
theorem st_10 (hJ : Jinv n μ hh) (a1 a2 : Int32) : ∃ μ', St_10 a1 a2 μ μ' ∧ Jinv (n + 1) μ' hh := by
  have hG := hJ.1
  have hI := hJ.2.1
  have hd := hI.2.2.1.2.1
  have h24 := ens_lt hd
  have hcE : f_X4_currentEntries (0 + 1) μ = some (nI (ens (μ 86) (cd (μ 86)))) := by
    show f_X4_currentEntries 1 μ = _
    unfold f_X4_currentEntries
    rw [hG.curDir hI, Option.bind_some, hG.1.entriesIn hd, Option.bind_some]
  have hmE : ∀ {K : Int32 → Option (Int32 × Mem)}, (f_X7_now 85 μ).bind (fun v1 => (f_X7_entriesBy 85 v1 μ).bind K) = K (nI (ens (μ 86) (cd (μ 86)))) := fun {K} => by
    rw [now_n (q := 85) (d := cd (μ 86)) hI.2.2.1.1, Option.bind_some, entriesBy_n (q := 85) hd, Option.bind_some]
  have main : ((∃ r w, r < ens (μ 86) (cd (μ 86)) ∧ w < 4 ∧ a1 = nI r ∧ a2 = nI w ∧ f_X6_partFault a1 (nI (ens (μ 86) (cd (μ 86)))) a2 4 = some 0 ∧ f_X7_in a1 0 (nI (ens (μ 86) (cd (μ 86))) - 1) = some 1 ∧ f_X7_in a2 0 3 = some 1) ∨ (f_X6_partFault a1 (nI (ens (μ 86) (cd (μ 86)))) a2 4 = some 1 ∧ f_X7_in a1 0 (nI (ens (μ 86) (cd (μ 86))) - 1) = some 0) ∨ (f_X6_partFault a1 (nI (ens (μ 86) (cd (μ 86)))) a2 4 = some 2 ∧ f_X7_in a1 0 (nI (ens (μ 86) (cd (μ 86))) - 1) = some 1 ∧ f_X7_in a2 0 3 = some 0)) := by
    by_cases c0 : ens (μ 86) (cd (μ 86)) = 0
    · rw [c0]
      refine Or.inr (Or.inl ⟨?_, (below_in0 a1).2⟩)
      unfold f_X6_partFault
      rw [(below_in0 a1).1, Option.bind_some, if_pos rfl]
    · exact part_in a1 a2 (n1 := ens (μ 86) (cd (μ 86))) (n2 := 4) (by omega) (by omega) (by decide) (by decide) rfl (n_pred (by omega)) rfl rfl
  rcases main with ⟨r, w, hr, hw, rfl, rfl, e1, e2, e3⟩ | ⟨e1, e2⟩ | ⟨e1, e2, e3⟩
  · obtain ⟨z, hz, -⟩ := loc_some (p := μ 86) (d := cd (μ 86)) (nB (μ 86) (cd (μ 86)) 2) 0 r (by rw [enf_ens]; exact hr)
    have hw' : nI w = 0 ∨ nI w = 1 ∨ nI w = 2 ∨ nI w = 3 := by
      rcases (show w = 0 ∨ w = 1 ∨ w = 2 ∨ w = 3 by omega) with rfl | rfl | rfl | rfl
      · exact Or.inl rfl
      · exact Or.inr (Or.inl rfl)
      · exact Or.inr (Or.inr (Or.inl rfl))
      · exact Or.inr (Or.inr (Or.inr rfl))
    refine ⟨mst μ 85 6 0, Or.inl ⟨tev (μ 86) (cd (μ 86)) (nI w) z, ?_, ?_, thr6⟩, hJ.j6 0⟩
    · unfold f_X6_entry
      rw [hcE, Option.bind_some, e1, Option.bind_some, refuse0, Option.bind_some]
      show (f_X4_entryPart 1 (nI r) (nI w) μ).bind _ = _
      unfold f_X4_entryPart
      rw [hG.curDir hI, Option.bind_some, hG.1.entryPartIn hd hw' (by omega) hz, Option.bind_some, Option.bind_some]
    · unfold f_X7_entry
      rw [hmE, e2, Option.bind_some, if_neg (by decide), e3, Option.bind_some, if_neg (by decide)]
      unfold f_X7_entry_b37 f_X7_entry_b57
      rw [pf_e, Option.bind_some, T6, if_pos rfl, tellEntry_n (d := cd (μ 86)) (z := z) (by rw [T1]; exact hI.2.2.1.1) (by rw [T1]; exact hd) (by omega) (by rw [T1]; exact hz), T1, Option.bind_some]
  · refine ⟨mst μ 85 6 1, Or.inr (Or.inl ⟨?_, 0, ?_, thr6⟩), hJ.j6 1⟩
    · unfold f_X6_entry_t
      rw [hcE, Option.bind_some, e1, Option.bind_some, rfx_1]
    · unfold f_X7_entry
      rw [hmE, e2, Option.bind_some, if_pos rfl]
      unfold f_X7_entry_b37 f_X7_entry_b57
      rw [pf_e, Option.bind_some, T6, if_neg (by decide)]
  · refine ⟨mst μ 85 6 2, Or.inr (Or.inr ⟨?_, 0, ?_, thr6⟩), hJ.j6 2⟩
    · unfold f_X6_entry_t
      rw [hcE, Option.bind_some, e1, Option.bind_some, rfx_2]
    · unfold f_X7_entry
      rw [hmE, e2, Option.bind_some, if_neg (by decide), e3, Option.bind_some, if_pos rfl]
      unfold f_X7_entry_b37 f_X7_entry_b57
      rw [pf_e, Option.bind_some, T6, if_neg (by decide)]
theorem st_14 (hJ : Jinv n μ hh) (a1 a2 : Int32) : ∃ μ', St_14 a1 a2 μ μ' ∧ Jinv (n + 1) μ' hh := by
  have hJ0 := hJ
  obtain ⟨hG, hI, hH, len, t1, t2, t3, t4⟩ := hJ0
  rcases below_in a1 (n := 15) (N := 15) (M := 14) (by decide) (by decide) rfl rfl with ⟨w, hw, rfl, e1, e2⟩ | ⟨e1, e2⟩
  · refine ⟨mst μ 85 6 0, Or.inl ⟨twh (μ 86) (nI len) w, ?_, ?_, thr6⟩, hJ.j6 0⟩
    · unfold f_X6_whole f_X6_whole_b14 f_X6_whole_b41
      rw [e1, Option.bind_some, if_neg (by decide), refuse0, Option.bind_some]
      by_cases c : w = 14
      · rw [if_pos (show nI w = (14 : Int32) from congrArg nI c), Nat.zero_add, t2, c]
        rfl
      · rw [if_neg (show ¬ nI w = (14 : Int32) from fun z => c (nI_inj (b := 14) (by omega) (by omega) z)), Nat.zero_add, hG.wholePart hI (by omega) (nI len), Option.bind_some]
    · unfold f_X7_whole f_X7_whole_b28
      rw [pf_e, Option.bind_some, e2, Option.bind_some, if_neg (by decide), tell_n (B := BN n) (by rw [T1]; exact hI) hw, T1, Option.bind_some, mst_eq, upd_ne (by decide), t3]
  · refine ⟨mst (mst μ 85 6 0) 85 6 1, Or.inr ⟨?_, 0, ?_, thr6⟩, hJ.j66 1 0⟩
    · unfold f_X6_whole_t f_X6_whole_t_b14
      rw [e1, Option.bind_some, if_pos rfl, rfx_2]
    · unfold f_X7_whole f_X7_whole_b28
      rw [pf_e, Option.bind_some, e2, Option.bind_some, if_pos rfl, fails_e, bn2_some]
theorem oI_neg {o : Option Nat} (h : ∀ b, o = some b → b < 32) : (if (0 : Int32) ≤ oI (-1) o then oI (-1) o else -1000) = oI (-1000) o := by
  cases o with
  | none => exact if_neg (show ¬ (0 : Int32) ≤ oI (-1) none by decide)
  | some b => exact if_pos (show (0 : Int32) ≤ oI (-1) (some b) from nI_pos' (by have := h b rfl; omega))
theorem tellNext_n {q : Nat} : f_X7_tellNext q μ = some (oI (-1000) (nxt (μ (q + 1)))) := by
  unfold f_X7_tellNext f_X7_tellNext_b16
  rw [nextNow_n, Option.bind_some, ← oI_neg (fun b hb => nxt_lt hb)]
  split <;> rfl
theorem st_15 (hJ : Jinv n μ hh) : ∃ μ', St_15 μ μ' ∧ Jinv (n + 1) μ' hh := by
  have hG := hJ.1
  have hI := hJ.2.1
  refine ⟨mst μ 85 6 0, ⟨oI (-1000) (nxt (μ 86)), ?_, ?_⟩, hJ.j6 0⟩
  · unfold f_X6_nextBed
    rw [Nat.zero_add, hG.bedToDig hI, Option.bind_some]
  · unfold f_X7_nextBed
    rw [pf_e, Option.bind_some, tellNext_n, T1, Option.bind_some]
end PST2
