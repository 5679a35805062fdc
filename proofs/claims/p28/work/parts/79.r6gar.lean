/-! PURE, garden level: digging alike -/
section PGAR
variable {q g : Nat} {μ μ' : Mem} {p p' : Nat → Int32} {l b n s k d pl : Nat} {key val kind : Int32}
theorem Same.nowEq (h : Same p p') : nowp p' = nowp p := by
  unfold nowp
  rw [h.cureq, h.gRe]
theorem Same.drfEq (h : Same p p') : drf p' = drf p := by
  unfold drf
  rw [h.nowEq, h 467 (by decide)]
theorem RG.beds (h : RG g μ p) (hs : Same p p') (hb : RB (g + 1) μ' p') (hf : Fr (g + 1) μ μ') : RG g μ' p' := by
  refine ⟨hb, fun r hr => ?_, fun r hr => ?_, ?_, ?_, ?_, ?_⟩
  · have e := h.2.1 r hr
    rw [hs.gRe, hs.gRe, hs.gRe, hf (g + 11) (by omega), hf (g + 12) (by omega), hf (g + 13) (by omega)]
    exact e
  · have e := h.2.2.1 r hr
    rw [hs.gDe, hs.gDe, hs.gDe, hf (g + 14) (by omega), hf (g + 15) (by omega)]
    exact e
  · rw [hf g (by omega), hs 466 (by decide)]
    exact h.2.2.2.1
  · rw [hf g (by omega), hs 466 (by decide), hs.drfEq]
    exact h.2.2.2.2.1
  · rw [hf g (by omega), hs 468 (by decide)]
    exact h.2.2.2.2.2.1
  · rw [hf g (by omega), hs 469 (by decide)]
    exact h.2.2.2.2.2.2
theorem RG.dig (h : RG g μ p) (hr : RootOK p) (hn : nxt p = some b) (hl : gB p b 5 = 0) : ∃ μ', f_X4_dig g kind μ = some (nI b, μ') ∧ RG g μ' (dgB p b kind) ∧ Fr (g + 1) μ μ' := by
  have hb := nxt_lt hn
  obtain ⟨μ', e1, e2, e3⟩ := h.1.useFresh (kind := kind) hb hl
  refine ⟨μ', ?_, h.beds (dgB_same hb) e2 e3, e3⟩
  unfold f_X4_dig
  rw [h.needed1 hr, Option.bind_some, h.bedToDig1, hn, Option.bind_some, show oI (-1000) (some b) = nI b from rfl, e1, Option.bind_some]
/-- a bed to dig is neither used nor left -/
theorem nxt_free {B : Int} (hi : INV B p) (hn : nxt p = some b) : gB p b 0 ≠ 1 ∧ gB p b 5 = 0 ∧ gB p b 4 = 0 := by
  have hb := nxt_lt hn
  have hB := hi.2.1 b hb
  have h1 : gB p b 0 ≠ 1 := by
    rcases nxt_ok hn with c | c
    · have c2 : gB p b 0 = 2 := of_decide_eq_true (Bool.and_eq_true_iff.mp c).1
      rw [c2]
      decide
    · have c2 : gB p b 0 = 0 := of_decide_eq_true c
      rw [c2]
      decide
  refine ⟨h1, ?_, ?_⟩
  · rcases hB.2.2.1 with c | c
    · exact c
    · exact absurd (hB.2.2.2.2 c) h1
  · rcases hB.2.1 with c | c
    · exact c
    · exact absurd (hB.2.2.2.1 c).1 h1
/-- digging takes one from what can be dug -/
theorem many_dg (hn : nxt p = some b) (hk : gB (dgB p b kind) b 0 = 1) : many p = many (dgB p b kind) + 1 := by
  have hb := nxt_lt hn
  have hs := dgB_same (p := p) (kind := kind) hb
  refine ct_drop 32 hb ?_ ?_ (fun j hj hne => ?_)
  · rcases nxt_ok hn with c | c <;> rw [c]
    · rfl
    · exact Bool.or_true _
  · show (decide (gB (dgB p b kind) b 0 = 2) && decide (gB (dgB p b kind) b 3 ≤ need (dgB p b kind) (-1)) || decide (gB (dgB p b kind) b 0 = 0)) = false
    rw [hk]
    rfl
  · show (decide (gB p j 0 = 2) && decide (gB p j 3 ≤ need p (-1)) || decide (gB p j 0 = 0)) = (decide (gB (dgB p b kind) j 0 = 2) && decide (gB (dgB p b kind) j 3 ≤ need (dgB p b kind) (-1)) || decide (gB (dgB p b kind) j 0 = 0))
    rw [dgB_ne hne (by decide), dgB_ne hne (by decide), hs.needEq]
/-- no page of a current or of a reader's directory is dug -/
theorem need_le {r : Nat} (hr4 : r < 4) (ho : gD p r 0 = 1) : need p (-1) ≤ gD p r 1 := by
  have hstep : ∀ (j : Nat) (m : Int32), (dmin p (-1) j m).toInt ≤ m.toInt := fun j m => by
    unfold dmin
    split
    · rename_i h
      have := Int32.lt_iff_toInt_lt.mp h.2.2
      omega
    · exact Int.le_refl _
  have hr : (dmin p (-1) r (lp (dmin p (-1)) r 0 (lp (rmin p) 2 0 (gR p (cur p) 0)))).toInt ≤ (gD p r 1).toInt := by
    by_cases c : gD p r 1 < lp (dmin p (-1)) r 0 (lp (rmin p) 2 0 (gR p (cur p) 0))
    · rw [dmin_y (by
        have hc : r = 0 ∨ r = 1 ∨ r = 2 ∨ r = 3 := by omega
        rcases hc with rfl | rfl | rfl | rfl <;> decide) ho c]
      exact Int.le_refl _
    · rw [dmin_3 c]
      have := Int32.le_iff_toInt_le.mp (Int32.not_lt.mp c)
      exact this
  have htail : ∀ (n k : Nat) (m : Int32), (lp (dmin p (-1)) n k m).toInt ≤ m.toInt := by
    intro n
    induction n with
    | zero => intro k m; exact Int.le_refl _
    | succ n ih => intro k m; exact Int.le_trans (ih (k + 1) _) (hstep k m)
  apply Int32.le_iff_toInt_le.mpr
  unfold need
  rw [show 4 = r + (1 + (3 - r)) by omega, lp_split, lp_split]
  refine Int.le_trans (htail _ _ _) ?_
  rw [Nat.zero_add]
  exact hr
end PGAR
