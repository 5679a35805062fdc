/-! PURE, the invariant behind a change of the draft's own pages -/
section PINVE
variable {q g : Nat} {μ μ' : Mem} {p p' : Nat → Int32} {l b b' w' n s k d f pl : Nat} {key val kind x : Int32} {B : Int}
theorem DirOK.mk (n : Nat) (L : Nat → Nat) (hd : d < 32) (h0 : gB p d 0 = 1) (h1 : gB p d 1 = 1) (h2 : gB p d 2 = nI n) (h6 : n ≤ 6) (hL : ∀ i, i < n → gB p d (6 + i) = nI (L i) ∧ LeafOK p (L i)) (hj : ∀ i j, i < n → j < n → L i = L j → i = j) : DirOK p d ∧ nB p d 2 = n ∧ ∀ i, i < n → nB p d (6 + i) = L i := by
  have e2 : nB p d 2 = n := by
    unfold nB
    rw [h2, nI_clamp (by omega)]
  have eL : ∀ i, i < n → nB p d (6 + i) = L i := fun i hi => by
    have q1 := (hL i hi).2.1
    unfold nB
    rw [(hL i hi).1, nI_clamp (by omega)]
  refine ⟨⟨hd, by rw [h0]; decide, h1, by rw [e2]; exact h2, by rw [e2]; exact h6, fun i hi => ?_, fun i j hi hj' hij => ?_⟩, e2, eL⟩
  · rw [e2] at hi
    rw [eL i hi]
    exact hL i hi
  · rw [e2] at hi hj'
    rw [eL i hi, eL j hj'] at hij
    exact hj i j hi hj' hij
theorem Same.fdpEq (h : Same p p') : fdp p' = fdp p := by
  unfold fdp
  rw [h 467 (by decide)]
theorem Same.cdEq (h : Same p p') : cd p' = cd p := by
  have q1 : (nowp p').toNatClampNeg = (nowp p).toNatClampNeg := by rw [h.nowEq]
  exact q1
theorem Same.rdpEq (h : Same p p') {r : Nat} : rdp p' r = rdp p r := by
  unfold rdp
  rw [h.gDe]
theorem HasDraft.mk (hs : Same p p') (hd : HasDraft p) (n : Nat) (L : Nat → Nat) (h0 : gB p' (fdp p) 0 = 1) (h1 : gB p' (fdp p) 1 = 1) (h2 : gB p' (fdp p) 2 = nI n) (h4 : gB p' (fdp p) 4 = 1) (h5 : gB p' (fdp p) 5 = 0) (h6 : n ≤ 6) (hL : ∀ i, i < n → gB p' (fdp p) (6 + i) = nI (L i) ∧ LeafOK p' (L i) ∧ gB p' (L i) 0 = 1 ∧ gB p' (L i) 5 = 0) (hj : ∀ i j, i < n → j < n → L i = L j → i = j) : HasDraft p' := by
  obtain ⟨a, a2, a3⟩ := DirOK.mk n L hd.2.2.1.1 h0 h1 h2 h6 (fun i hi => ⟨(hL i hi).1, (hL i hi).2.1⟩) hj
  refine ⟨by rw [hs 466 (by decide)]; exact hd.1, by rw [hs.fdpEq, hs 467 (by decide)]; exact hd.2.1, by rw [hs.fdpEq]; exact a, by rw [hs.fdpEq]; exact h4, ?_⟩
  rw [hs.fdpEq]
  refine ⟨⟨h0, h5⟩, fun i hi => ?_⟩
  rw [a2] at hi
  rw [a3 i hi]
  exact (hL i hi).2.2
theorem INV_gen (hi : INV B p) (hs : Same p p') (hk : ∀ b, b < 32 → gB p b 4 = 0 → nxt p ≠ some b → ∀ w, w < 14 → w ≠ 5 → gB p' b w = gB p b w) (hb : BedsOK p') (hdr : HasDraft p') : INV B p' := by
  have nx : ∀ b, gB p b 0 = 1 → nxt p ≠ some b := fun b h z => (nxt_free hi z).1 h
  obtain ⟨d1, d2, d3⟩ := hi.2.2.1
  have dirP : ∀ e, DirOK p e → (Pg p e (fun b => gB p b 4 = 0 ∧ nxt p ≠ some b)) → DirOK p' e ∧ nB p' e 2 = nB p e 2 ∧ ∀ i, i < nB p e 2 → nB p' e (6 + i) = nB p e (6 + i) := fun e he hP => he.cgc (fun w hw hc => hk e he.1 hP.1.1 hP.1.2 w hw (by omega)) (fun i hi2 w hw hc => hk _ (he.2.2.2.2.2.1 i hi2).2.1 (hP.2 i hi2).1 (hP.2 i hi2).2 w hw (by omega))
  have ecd : cd p' = cd p := hs.cdEq
  obtain ⟨q1, q2, q3⟩ := dirP (cd p) d2 ⟨⟨d3.1.2, nx _ d3.1.1⟩, fun i hi2 => ⟨(d3.2 i hi2).2, nx _ (d3.2 i hi2).1⟩⟩
  refine ⟨⟨fun r hr => ?_, ?_, fun r hr => ?_⟩, hb, ⟨?_, ?_, ?_⟩, fun r hr ho => ?_, ?_, Or.inr hdr, ?_⟩
  · rw [hs.gRe, hs.gRe]
    exact hi.1.1 r hr
  · rw [hs.cureq, hs.gRe]
    exact hi.1.2.1
  · rw [hs.gDe, hs.gDe]
    exact hi.1.2.2 r hr
  · rw [hs.nowEq, ecd]
    exact d1
  · rw [ecd]
    exact q1
  · rw [ecd]
    have st : ∀ b, b < 32 → gB p b 0 = 1 ∧ gB p b 4 = 0 → gB p' b 0 = 1 ∧ gB p' b 4 = 0 := fun b hb hc => by
      rw [hk b hb hc.2 (nx b hc.1) 0 (by decide) (by decide), hk b hb hc.2 (nx b hc.1) 4 (by decide) (by decide)]
      exact hc
    refine ⟨st _ d2.1 d3.1, fun i hi2 => ?_⟩
    rw [q2] at hi2
    rw [q3 i hi2]
    exact st _ (d2.2.2.2.2.2.1 i hi2).2.1 (d3.2 i hi2)
  · rw [hs.gDe] at ho
    obtain ⟨r1, r2, r3, r4⟩ := hi.2.2.2.1 r hr ho
    have ok : ∀ b, b < 32 → (gB p b 0 = 1 ∧ gB p b 4 = 0) ∨ (gB p b 0 = 2 ∧ gD p r 1 < gB p b 3) → gB p b 4 = 0 ∧ nxt p ≠ some b := fun b hb hc => by
      refine ⟨?_, fun z => page_ne hr ho hi z hc rfl⟩
      rcases hc with c | c
      · exact c.2
      · rcases (hi.2.1 b hb).2.1 with e | e
        · exact e
        · have e2 := ((hi.2.1 b hb).2.2.2.1 e).1
          rw [c.1] at e2
          exact absurd e2 (by decide)
    have st : ∀ b, b < 32 → (gB p b 0 = 1 ∧ gB p b 4 = 0) ∨ (gB p b 0 = 2 ∧ gD p r 1 < gB p b 3) → (gB p' b 0 = 1 ∧ gB p' b 4 = 0) ∨ (gB p' b 0 = 2 ∧ gD p' r 1 < gB p' b 3) := fun b hb hc => by
      obtain ⟨o1, o2⟩ := ok b hb hc
      rw [hk b hb o1 o2 0 (by decide) (by decide), hk b hb o1 o2 4 (by decide) (by decide), hk b hb o1 o2 3 (by decide) (by decide), hs.gDe]
      exact hc
    obtain ⟨s1, s2, s3⟩ := dirP (rdp p r) r2 ⟨ok _ r2.1 r3.1, fun i hi2 => ok _ (r2.2.2.2.2.2.1 i hi2).2.1 (r3.2 i hi2)⟩
    refine ⟨by rw [hs.rdpEq, hs.gDe]; exact r1, by rw [hs.rdpEq]; exact s1, ?_, by rw [hs.cureq, hs.gDe, hs.gRe]; exact r4⟩
    rw [hs.rdpEq]
    refine ⟨st _ r2.1 r3.1, fun i hi2 => ?_⟩
    rw [s2] at hi2
    rw [s3 i hi2]
    exact st _ (r2.2.2.2.2.2.1 i hi2).2.1 (r3.2 i hi2)
  · rw [hs 466 (by decide)]
    exact hi.2.2.2.2.1
  · rw [hs.cureq, hs.gRe]
    exact hi.2.2.2.2.2.2
/-- a leaf of the draft's directory is written -/
theorem INV_leaf (hi : INV B p) (hd : HasDraft p) (hk : k < nB p (fdp p) 2) (hl : nB p (fdp p) (6 + k) = l) (h4 : gB p l 4 = 1) (hs : Same p p') (ho : ∀ b, b < 32 → b ≠ l → ∀ w, w < 14 → gB p' b w = gB p b w) (hf : ∀ w, w < 6 → w ≠ 2 → gB p' l w = gB p l w) (hL : LeafOK p' l) : INV B p' := by
  obtain ⟨d1, d2, d3, d4, d5⟩ := hd
  have hLl := (d3.2.2.2.2.2.1 k hk).2
  rw [hl] at hLl
  have hne : fdp p ≠ l := fun z => by
    have e1 := d3.2.2.1
    rw [z, hLl.2.2.1] at e1
    exact absurd e1 (by decide)
  refine INV_gen hi hs (fun b hb c1 c2 w hw hw5 => ?_) (fun b hb => ?_) (HasDraft.mk hs ⟨d1, d2, d3, d4, d5⟩ (nB p (fdp p) 2) (fun i => nB p (fdp p) (6 + i)) ?_ ?_ ?_ ?_ ?_ d3.2.2.2.2.1 (fun i hi2 => ?_) d3.2.2.2.2.2.2)
  · exact ho b hb (fun z => by rw [z, h4] at c1; exact absurd c1 (by decide)) w hw
  · have hB := hi.2.1 b hb
    by_cases c : b = l
    · rw [c, hf 0 (by decide) (by decide), hf 4 (by decide) (by decide), hf 5 (by decide) (by decide)]
      rw [c] at hB
      exact hB
    · rw [ho b hb c 0 (by decide), ho b hb c 4 (by decide), ho b hb c 5 (by decide)]
      exact hB
  · rw [ho _ d3.1 hne 0 (by decide)]
    exact d5.1.1
  · rw [ho _ d3.1 hne 1 (by decide)]
    exact d3.2.2.1
  · rw [ho _ d3.1 hne 2 (by decide)]
    exact d3.2.2.2.1
  · rw [ho _ d3.1 hne 4 (by decide)]
    exact d4
  · rw [ho _ d3.1 hne 5 (by decide)]
    exact d5.1.2
  · have h6 := d3.2.2.2.2.1
    have hLi := d3.2.2.2.2.2.1 i hi2
    have hP := d5.2 i hi2
    refine ⟨by rw [ho _ d3.1 hne _ (by omega)]; exact hLi.1, ?_⟩
    show LeafOK p' (nB p (fdp p) (6 + i)) ∧ gB p' (nB p (fdp p) (6 + i)) 0 = 1 ∧ gB p' (nB p (fdp p) (6 + i)) 5 = 0
    by_cases c : nB p (fdp p) (6 + i) = l
    · rw [c] at hP ⊢
      rw [hf 0 (by decide) (by decide), hf 5 (by decide) (by decide)]
      exact ⟨hL, hP⟩
    · rw [ho _ hLi.2.1 c 0 (by decide), ho _ hLi.2.1 c 5 (by decide)]
      exact ⟨hLi.2.cgc (fun w hw _ => ho _ hLi.2.1 c w hw), hP⟩
end PINVE
