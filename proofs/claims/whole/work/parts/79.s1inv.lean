/-! PURE, the invariant holds behind the draft's own directory -/
section PINVD
variable {q g : Nat} {μ μ' : Mem} {p p' : Nat → Int32} {l b b' w' n s k d f pl : Nat} {key val kind x : Int32} {B : Int}
/-- a page that a reader or the current root needs is not the one to dig -/
theorem page_ne {r : Nat} (hr4 : r < 4) (ho : gD p r 0 = 1) (hi : INV B p) (hn : nxt p = some f) (hb : (gB p b 0 = 1 ∧ gB p b 4 = 0) ∨ (gB p b 0 = 2 ∧ gD p r 1 < gB p b 3)) : b ≠ f := by
  intro z
  rw [z] at hb
  have f1 := (nxt_free hi hn).1
  rcases hb with c | c
  · exact f1 c.1
  · rcases nxt_ok hn with e | e
    · have e2 : gB p f 3 ≤ need p (-1) := of_decide_eq_true (Bool.and_eq_true_iff.mp e).2
      exact absurd (Int32.le_trans e2 (need_le hr4 ho)) (Int32.not_le.mpr c.2)
    · have e2 : gB p f 0 = 0 := of_decide_eq_true e
      rw [c.1] at e2
      exact absurd e2 (by decide)
theorem INV_oD (hi : INV B p) (hd : p 466 = 1) (hl : p 467 < 0) (hn : nxt p = some f) : INV B (oD p (cd p) f) := by
  have hf := nxt_lt hn
  obtain ⟨d1, d2, d3⟩ := hi.2.2.1
  obtain ⟨f1, f2, f3⟩ := nxt_free hi hn
  have hd32 := d2.1
  have hdf : cd p ≠ f := fun z => f1 (by rw [← z]; exact d3.1.1)
  have h4 := d3.1.2
  have hsame : Same (sS (dgB p f 1) 467 (nI f)) (oD p (cd p) f) := (cpB_same hf).tr (lvB_same hd32)
  have hpc : ∀ i, 448 ≤ i → i ≠ 467 → oD p (cd p) f i = p i := fun i h1 h2 => by
    rw [hsame i h1, show sS (dgB p f 1) 467 (nI f) i = dgB p f 1 i from upd_ne h2, dgB_same hf i h1]
  have h467 : oD p (cd p) f 467 = nI f := by
    rw [hsame 467 (by decide)]
    exact upd_eq
  have eR : ∀ r v, r < 2 → v < 3 → gR (oD p (cd p) f) r v = gR p r v := fun r v hr hv => hpc _ (by omega) (by omega)
  have eD : ∀ r v, r < 4 → v < 3 → gD (oD p (cd p) f) r v = gD p r v := fun r v hr hv => hpc _ (by omega) (by omega)
  have ec : cur (oD p (cd p) f) = cur p := by
    unfold cur
    rw [eR 1 2 (by decide) (by decide), eR 0 2 (by decide) (by decide), eR 0 0 (by decide) (by decide), eR 1 0 (by decide) (by decide)]
  have en : nowp (oD p (cd p) f) = nowp p := by
    unfold nowp
    rw [ec, eR _ 1 cur_lt (by decide)]
  have ecd : cd (oD p (cd p) f) = cd p := by
    have q1 : (nowp (oD p (cd p) f)).toNatClampNeg = (nowp p).toNatClampNeg := by rw [en]
    exact q1
  have nd : ∀ b, b < 32 → gB p b 4 = 0 ∧ gB p b 5 = 0 := by
    rcases hi.2.2.2.2.2.1 with c | c
    · exact c.2
    · exact absurd hl c.nlt
  have oth : ∀ b w, b < 32 → w < 14 → b ≠ f → ¬ (b = cd p ∧ w = 5) → gB (oD p (cd p) f) b w = gB p b w := fun b w hb hw h1 h2 => oD_other hf hb hd32 hw h4 hdf h1 h2
  have new0 : ∀ w, w < 14 → gB (oD p (cd p) f) f w = if w = 2 ∨ 6 ≤ w then gB p (cd p) w else gB (dgB p f 1) f w := fun w hw => oD_new hf hd32 hw h4 hdf
  have n0 : gB (oD p (cd p) f) f 0 = 1 := by rw [new0 0 (by decide), if_neg (by decide)]; exact dgB_eq.1
  have n1 : gB (oD p (cd p) f) f 1 = 1 := by rw [new0 1 (by decide), if_neg (by decide)]; exact dgB_eq.2.1
  have n4 : gB (oD p (cd p) f) f 4 = 1 := by rw [new0 4 (by decide), if_neg (by decide)]; exact dgB_eq.2.2.2.2.1
  have n5 : gB (oD p (cd p) f) f 5 = 0 := by rw [new0 5 (by decide), if_neg (by decide)]; exact dgB_eq.2.2.2.2.2
  have hle : ∀ i, i < nB p (cd p) 2 → nB p (cd p) (6 + i) < 32 ∧ nB p (cd p) (6 + i) ≠ f ∧ nB p (cd p) (6 + i) ≠ cd p := fun i hi2 => by
    have hL := (d2.2.2.2.2.2.1 i hi2).2
    refine ⟨hL.1, fun z => f1 (by rw [← z]; exact (d3.2 i hi2).1), fun z => ?_⟩
    have q1 := hL.2.2.1
    rw [z, d2.2.2.1] at q1
    exact absurd q1 (by decide)
  sorry
end PINVD
