/-! PURE, the invariant holds behind the draft's own directory -/
section PINVD
variable {q g : Nat} {μ μ' : Mem} {p p' : Nat → Int32} {l b b' w' n s k d f pl : Nat} {key val kind x : Int32} {B : Int}
/-- a page that a reader or the current root needs is not the one to dig -/
theorem page_ne {r : Nat} (hr4 : r < 4) (ho : gD p r 0 = 1) (hi : INV B p) (hn : nxt p = some f) (hb : (gB p b 0 = 1 ∧ gB p b 4 = 0) ∨ (gB p b 0 = 2 ∧ gD p r 1 < gB p b 3)) : b ≠ f := by
  intro z
  rw [z] at hb
  have f1 := (nxt_free hi hn).1
  rcases hb with c | c
  · exact f1 c.1
  · rcases nxt_ok hn with e | e
    · have e2 : gB p f 3 ≤ need p (-1) := of_decide_eq_true (Bool.and_eq_true_iff.mp e).2
      exact absurd (Int32.le_trans e2 (need_le hr4 ho)) (Int32.not_le.mpr c.2)
    · have e2 : gB p f 0 = 0 := of_decide_eq_true e
      rw [c.1] at e2
      exact absurd e2 (by decide)
theorem INV_oD (hi : INV B p) (hd : p 466 = 1) (hl : p 467 < 0) (hn : nxt p = some f) : INV B (oD p (cd p) f) := by
  have hf := nxt_lt hn
  obtain ⟨d1, d2, d3⟩ := hi.2.2.1
  obtain ⟨f1, f2, f3⟩ := nxt_free hi hn
  have hd32 := d2.1
  have hdf : cd p ≠ f := fun z => f1 (by rw [← z]; exact d3.1.1)
  have h4 := d3.1.2
  have hsame : Same (sS (dgB p f 1) 467 (nI f)) (oD p (cd p) f) := (cpB_same hf).tr (lvB_same hd32)
  have hpc : ∀ i, 448 ≤ i → i ≠ 467 → oD p (cd p) f i = p i := fun i h1 h2 => by
    rw [hsame i h1, show sS (dgB p f 1) 467 (nI f) i = dgB p f 1 i from upd_ne h2, dgB_same hf i h1]
  have h467 : oD p (cd p) f 467 = nI f := by
    rw [hsame 467 (by decide)]
    exact upd_eq
  have eR : ∀ r v, r < 2 → v < 3 → gR (oD p (cd p) f) r v = gR p r v := fun r v hr hv => hpc _ (by omega) (by omega)
  have eD : ∀ r v, r < 4 → v < 3 → gD (oD p (cd p) f) r v = gD p r v := fun r v hr hv => hpc _ (by omega) (by omega)
  have ec : cur (oD p (cd p) f) = cur p := by
    unfold cur
    rw [eR 1 2 (by decide) (by decide), eR 0 2 (by decide) (by decide), eR 0 0 (by decide) (by decide), eR 1 0 (by decide) (by decide)]
  have en : nowp (oD p (cd p) f) = nowp p := by
    unfold nowp
    rw [ec, eR _ 1 cur_lt (by decide)]
  have ecd : cd (oD p (cd p) f) = cd p := by
    have q1 : (nowp (oD p (cd p) f)).toNatClampNeg = (nowp p).toNatClampNeg := by rw [en]
    exact q1
  have nd : ∀ b, b < 32 → gB p b 4 = 0 ∧ gB p b 5 = 0 := by
    rcases hi.2.2.2.2.2.1 with c | c
    · exact c.2
    · exact absurd hl c.nlt
  have oth : ∀ b w, b < 32 → w < 14 → b ≠ f → ¬ (b = cd p ∧ w = 5) → gB (oD p (cd p) f) b w = gB p b w := fun b w hb hw h1 h2 => oD_other hf hb hd32 hw h4 hdf h1 h2
  have new0 : ∀ w, w < 14 → gB (oD p (cd p) f) f w = if w = 2 ∨ 6 ≤ w then gB p (cd p) w else gB (dgB p f 1) f w := fun w hw => oD_new hf hd32 hw h4 hdf
  have n0 : gB (oD p (cd p) f) f 0 = 1 := by rw [new0 0 (by decide), if_neg (by decide)]; exact dgB_eq.1
  have n1 : gB (oD p (cd p) f) f 1 = 1 := by rw [new0 1 (by decide), if_neg (by decide)]; exact dgB_eq.2.1
  have n4 : gB (oD p (cd p) f) f 4 = 1 := by rw [new0 4 (by decide), if_neg (by decide)]; exact dgB_eq.2.2.2.2.1
  have n5 : gB (oD p (cd p) f) f 5 = 0 := by rw [new0 5 (by decide), if_neg (by decide)]; exact dgB_eq.2.2.2.2.2
  have hle : ∀ i, i < nB p (cd p) 2 → nB p (cd p) (6 + i) < 32 ∧ nB p (cd p) (6 + i) ≠ f ∧ nB p (cd p) (6 + i) ≠ cd p := fun i hi2 => by
    have hL := (d2.2.2.2.2.2.1 i hi2).2
    refine ⟨hL.1, fun z => f1 (by rw [← z]; exact (d3.2 i hi2).1), fun z => ?_⟩
    have q1 := hL.2.2.1
    rw [z, d2.2.2.1] at q1
    exact absurd q1 (by decide)
  have dirP : ∀ e, DirOK p e → e ≠ f → (∀ i, i < nB p e 2 → nB p e (6 + i) ≠ f) → DirOK (oD p (cd p) f) e ∧ nB (oD p (cd p) f) e 2 = nB p e 2 ∧ ∀ i, i < nB p e 2 → nB (oD p (cd p) f) e (6 + i) = nB p e (6 + i) := fun e he h1 h2 => he.cgc (fun w hw hc => oth e w he.1 hw h1 (by omega)) (fun i hi2 w hw hc => oth _ w (he.2.2.2.2.2.1 i hi2).2.1 hw (h2 i hi2) (by omega))
  have ef : fdp (oD p (cd p) f) = f := by
    unfold fdp
    rw [h467, nI_clamp (by omega)]
  have m2 : nB (oD p (cd p) f) f 2 = nB p (cd p) 2 := nB_of (by rw [new0 2 (by decide), if_pos (by decide)])
  have m6 : ∀ i, i < nB p (cd p) 2 → nB (oD p (cd p) f) f (6 + i) = nB p (cd p) (6 + i) := fun i hi2 => by
    have h6 := d2.2.2.2.2.1
    exact nB_of (by rw [new0 (6 + i) (by omega), if_pos (Or.inr (by omega))])
  obtain ⟨q1, q2, q3⟩ := dirP (cd p) d2 hdf (fun i hi2 => (hle i hi2).2.1)
  refine ⟨⟨fun r hr => ?_, ?_, fun r hr => ?_⟩, fun b hb => ?_, ⟨?_, ?_, ?_⟩, fun r hr ho => ?_, ?_, Or.inr ⟨?_, ?_, ?_, ?_, ?_⟩, ?_⟩
  · rw [eR r 2 hr (by decide), eR r 0 hr (by decide)]
    exact hi.1.1 r hr
  · rw [ec, eR _ 2 cur_lt (by decide)]
    exact hi.1.2.1
  · rw [eD r 0 hr (by decide), eD r 1 hr (by decide)]
    exact hi.1.2.2 r hr
  · by_cases c1 : b = f
    · rw [c1, n0, n4, n5]
      exact ⟨Or.inr (Or.inl rfl), Or.inr rfl, Or.inl rfl, fun _ => ⟨rfl, rfl⟩, fun _ => rfl⟩
    · rw [oth b 0 hb (by decide) c1 (by omega), oth b 4 hb (by decide) c1 (by omega)]
      by_cases c2 : b = cd p
      · rw [c2, oD_left hf hd32 h4 hdf]
        have hB := hi.2.1 (cd p) hd32
        exact ⟨hB.1, hB.2.1, Or.inr rfl, fun z => absurd (h4.symm.trans z) (by decide), fun _ => d3.1.1⟩
      · rw [oth b 5 hb (by decide) c1 (fun z => c2 z.1)]
        exact hi.2.1 b hb
  · rw [en, ecd]
    exact d1
  · rw [ecd]
    exact q1
  · rw [ecd]
    refine ⟨⟨by rw [oth _ 0 hd32 (by decide) hdf (by omega)]; exact d3.1.1, by rw [oth _ 4 hd32 (by decide) hdf (by omega)]; exact h4⟩, fun i hi2 => ?_⟩
    rw [q2] at hi2
    rw [q3 i hi2, oth _ 0 (hle i hi2).1 (by decide) (hle i hi2).2.1 (by omega), oth _ 4 (hle i hi2).1 (by decide) (hle i hi2).2.1 (by omega)]
    exact d3.2 i hi2
  · rw [eD r 0 hr (by decide)] at ho
    obtain ⟨r1, r2, r3, r4⟩ := hi.2.2.2.1 r hr ho
    have ne0 := page_ne hr ho hi hn r3.1
    have nei := fun i hi2 => page_ne hr ho hi hn (r3.2 i hi2)
    have er : rdp (oD p (cd p) f) r = rdp p r := by unfold rdp; rw [eD r 2 hr (by decide)]
    obtain ⟨s1, s2, s3⟩ := dirP (rdp p r) r2 ne0 nei
    refine ⟨by rw [er, eD r 2 hr (by decide)]; exact r1, by rw [er]; exact s1, ?_, by rw [ec, eD r 1 hr (by decide), eR _ 0 cur_lt (by decide)]; exact r4⟩
    rw [er]
    refine ⟨?_, fun i hi2 => ?_⟩
    · show (gB (oD p (cd p) f) (rdp p r) 0 = 1 ∧ gB (oD p (cd p) f) (rdp p r) 4 = 0) ∨ (gB (oD p (cd p) f) (rdp p r) 0 = 2 ∧ gD (oD p (cd p) f) r 1 < gB (oD p (cd p) f) (rdp p r) 3)
      rw [oth _ 0 r2.1 (by decide) ne0 (by omega), oth _ 4 r2.1 (by decide) ne0 (by omega), oth _ 3 r2.1 (by decide) ne0 (by omega), eD r 1 hr (by decide)]
      exact r3.1
    · rw [s2] at hi2
      have hL := (r2.2.2.2.2.2.1 i hi2).2.1
      rw [s3 i hi2, oth _ 0 hL (by decide) (nei i hi2) (by omega), oth _ 4 hL (by decide) (nei i hi2) (by omega), oth _ 3 hL (by decide) (nei i hi2) (by omega), eD r 1 hr (by decide)]
      exact r3.2 i hi2
  · rw [hpc 466 (by decide) (by decide)]
    exact hi.2.2.2.2.1
  · rw [hpc 466 (by decide) (by decide)]
    exact hd
  · rw [ef]
    exact h467
  · rw [ef]
    obtain ⟨g1, g2, g3, g4, g5, g6, g7⟩ := d2
    refine ⟨hf, by rw [n0]; decide, n1, by rw [m2, new0 2 (by decide), if_pos (by decide)]; exact g4, by rw [m2]; exact g5, fun i hi2 => ?_, fun i j hi2 hj hij => ?_⟩
    · rw [m2] at hi2
      rw [m6 i hi2, new0 (6 + i) (by omega), if_pos (Or.inr (by omega))]
      exact ⟨(g6 i hi2).1, (g6 i hi2).2.cgc (fun w hw hc => oth _ w (hle i hi2).1 hw (hle i hi2).2.1 (by omega))⟩
    · rw [m2] at hi2 hj
      rw [m6 i hi2, m6 j hj] at hij
      exact g7 i j hi2 hj hij
  · rw [ef]
    exact n4
  · rw [ef]
    refine ⟨⟨n0, n5⟩, fun i hi2 => ?_⟩
    rw [m2] at hi2
    rw [m6 i hi2, oth _ 0 (hle i hi2).1 (by decide) (hle i hi2).2.1 (by omega), oth _ 5 (hle i hi2).1 (by decide) (hle i hi2).2.1 (fun z => (hle i hi2).2.2 z.1)]
    exact ⟨(d3.2 i hi2).1, (nd _ (hle i hi2).1).2⟩
  · rw [ec, eR _ 0 cur_lt (by decide)]
    exact hi.2.2.2.2.2.2
end PINVD
