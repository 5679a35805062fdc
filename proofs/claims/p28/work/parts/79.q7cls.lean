/-! PURE, the class's small writing steps on beds keep the relation -/
section PCLSW
def Fr (q : Nat) (μ μ' : Mem) : Prop := ∀ k, (k ≤ q ∨ q + 10 ≤ k) → μ' k = μ k
theorem Fr.rf {q : Nat} {μ : Mem} : Fr q μ μ := fun _ _ => rfl
theorem Fr.tr {q : Nat} {μ μ' μ'' : Mem} (h : Fr q μ μ') (h' : Fr q μ' μ'') : Fr q μ μ'' := fun k hk => (h' k hk).trans (h k hk)
theorem Fr.mst {q j k : Nat} {μ : Mem} {x : Int32} (h1 : q < k) (h2 : k < q + 10) : Fr q μ (mst μ k j x) := fun i hi => mst_ne (by omega)
variable {q : Nat} {μ : Mem} {p : Nat → Int32} {b b' w w' k r v s t : Nat} {x kind : Int32}
theorem RB.useFresh (h : RB q μ p) (hb : b < 32) (hl : gB p b 5 = 0) : ∃ μ', f_X1_useFresh q (nI b) kind μ = some μ' ∧ RB q μ' (dgB p b kind) ∧ Fr q μ μ' := by
  unfold f_X1_useFresh
  rw [setCell_n hb (by decide), Option.bind_some, setCell_n hb (by decide), Option.bind_some, setCell_n hb (by decide), Option.bind_some, setCell_n hb (by decide), Option.bind_some, setCell_n hb (by decide), Option.bind_some]
  refine ⟨_, rfl, ⟨fun b' hb' => ?_, fun b' hb' h0 h1 i hi h4 => ?_, fun b' hb' h0 h1 i hi h4 => ?_⟩, ?_⟩
  · by_cases c : b' = b
    · subst c
      obtain ⟨e0, e1, e2, e3, e4, e5⟩ := dgB_eq (p := p) (b := b') (kind := kind)
      rw [e0, e1, e2, e4, e5]
      have e := (h.1 b' hb').2.2.2.2.2
      simp [mst, upd, e, hl]
    · rw [dgB_ne c (by decide), dgB_ne c (by decide), dgB_ne c (by decide), dgB_ne c (by decide), dgB_ne c (by decide), dgB_ne c (by decide)]
      have e := h.1 b' hb'
      simpa [mst, upd, c] using e
  · by_cases c : b' = b
    · subst c
      rw [show nB (dgB p b' kind) b' 2 = 0 by unfold nB; rw [dgB_eq.2.2.1]; rfl] at hi
      exact absurd hi (Nat.not_lt_zero i)
    · rw [dgB_ne c (by decide)] at h0 h1
      rw [show nB (dgB p b kind) b' 2 = nB p b' 2 by unfold nB; rw [dgB_ne c (by decide)]] at hi
      rw [dgB_ne c (by omega), dgB_ne c (by omega)]
      have e := h.2.1 b' hb' h0 h1 i hi h4
      simpa [mst] using e
  · by_cases c : b' = b
    · subst c
      rw [show nB (dgB p b' kind) b' 2 = 0 by unfold nB; rw [dgB_eq.2.2.1]; rfl] at hi
      exact absurd hi (Nat.not_lt_zero i)
    · rw [dgB_ne c (by decide)] at h0 h1
      rw [show nB (dgB p b kind) b' 2 = nB p b' 2 by unfold nB; rw [dgB_ne c (by decide)]] at hi
      rw [dgB_ne c (by omega)]
      have e := h.2.2 b' hb' h0 h1 i hi h4
      simpa [mst] using e
  · exact ((((Fr.mst (by omega) (by omega)).tr (Fr.mst (by omega) (by omega))).tr (Fr.mst (by omega) (by omega))).tr (Fr.mst (by omega) (by omega))).tr (Fr.mst (by omega) (by omega))
theorem RB.makeWild (h : RB q μ p) (hb : b < 32) (hl : gB p b 5 = 0) : ∃ μ', f_X1_makeWild q (nI b) μ = some μ' ∧ RB q μ' (wB p b) ∧ Fr q μ μ' := by
  unfold f_X1_makeWild
  rw [setCell_n hb (by decide), Option.bind_some, setCell_n hb (by decide), Option.bind_some, setCell_n hb (by decide), Option.bind_some, setCell_n hb (by decide), Option.bind_some, setCell_n hb (by decide), Option.bind_some]
  refine ⟨_, rfl, ⟨fun b' hb' => ?_, fun b' hb' h0 h1 i hi h4 => ?_, fun b' hb' h0 h1 i hi h4 => ?_⟩, ?_⟩
  · rw [wB_gB (by decide), wB_gB (by decide), wB_gB (by decide), wB_gB (by decide), wB_gB (by decide), wB_gB (by decide)]
    by_cases c : b' = b
    · subst c
      have e := (h.1 b' hb').2.2.2.2.2
      simp [mst, upd, e, hl]
    · have e := h.1 b' hb'
      simpa [mst, upd, c] using e
  · rw [wB_gB (by decide)] at h0 h1
    by_cases c : b' = b
    · rw [if_pos c] at h0
      exact absurd rfl h0
    · rw [if_neg c] at h0 h1
      rw [show nB (wB p b) b' 2 = nB p b' 2 by unfold nB; rw [wB_gB (by decide), if_neg c]] at hi
      rw [wB_gB (by omega), wB_gB (by omega), if_neg c, if_neg c]
      have e := h.2.1 b' hb' h0 h1 i hi h4
      simpa [mst] using e
  · rw [wB_gB (by decide)] at h0 h1
    by_cases c : b' = b
    · rw [if_pos c] at h0
      exact absurd rfl h0
    · rw [if_neg c] at h0 h1
      rw [show nB (wB p b) b' 2 = nB p b' 2 by unfold nB; rw [wB_gB (by decide), if_neg c]] at hi
      rw [wB_gB (by omega), if_neg c]
      have e := h.2.2 b' hb' h0 h1 i hi h4
      simpa [mst] using e
  · exact ((((Fr.mst (by omega) (by omega)).tr (Fr.mst (by omega) (by omega))).tr (Fr.mst (by omega) (by omega))).tr (Fr.mst (by omega) (by omega))).tr (Fr.mst (by omega) (by omega))
/-- a field of a bed that is no content is set alike on both sides -/
theorem RB.setLeft (h : RB q μ p) (hb : b < 32) : RB q (mst μ (q + 6) b x) (sB p b 5 x) := by
  refine ⟨fun b' hb' => ?_, fun b' hb' h0 h1 i hi h4 => ?_, fun b' hb' h0 h1 i hi h4 => ?_⟩
  · rw [gB_sB (by decide) (by decide), gB_sB (by decide) (by decide), gB_sB (by decide) (by decide), gB_sB (by decide) (by decide), gB_sB (by decide) (by decide), gB_sB (by decide) (by decide)]
    have e := h.1 b' hb'
    by_cases c : b' = b
    · subst c
      simpa [mst, upd] using ⟨e.1, e.2.1, e.2.2.1, e.2.2.2.1, e.2.2.2.2.1⟩
    · simpa [mst, upd, c] using e
  · rw [gB_sB (by decide) (by decide), if_neg (by omega)] at h0 h1
    rw [show nB (sB p b 5 x) b' 2 = nB p b' 2 by unfold nB; rw [gB_sB (by decide) (by decide), if_neg (by omega)]] at hi
    rw [gB_sB (by decide) (by omega), if_neg (by omega), gB_sB (by decide) (by omega), if_neg (by omega)]
    have e := h.2.1 b' hb' h0 h1 i hi h4
    simpa [mst] using e
  · rw [gB_sB (by decide) (by decide), if_neg (by omega)] at h0 h1
    rw [show nB (sB p b 5 x) b' 2 = nB p b' 2 by unfold nB; rw [gB_sB (by decide) (by decide), if_neg (by omega)]] at hi
    rw [gB_sB (by decide) (by omega), if_neg (by omega)]
    have e := h.2.2 b' hb' h0 h1 i hi h4
    simpa [mst] using e
theorem RB.leave (h : RB q μ p) (hb : b < 32) (hl : gB p b 4 = 1 → gB p b 5 = 0) : ∃ μ', f_X1_leave q (nI b) μ = some μ' ∧ RB q μ' (lvB p b) ∧ Fr q μ μ' := by
  unfold f_X1_leave f_X1_leave_b25
  rw [isFresh_n hb, (h.1 b hb).2.2.2.2.1, Option.bind_some]
  by_cases c : gB p b 4 = 1
  · obtain ⟨μ', e1, e2, e3⟩ := h.makeWild hb (hl c)
    rw [if_pos c, if_neg (by decide), e1, lvB_1 c]
    exact ⟨μ', rfl, e2, e3⟩
  · rw [if_neg c, if_pos rfl, setCell_n hb (by decide), lvB_0 c]
    exact ⟨_, rfl, h.setLeft hb, Fr.mst (by omega) (by omega)⟩
end PCLSW
