/-! PURE, commit in the model, and alike -/
section PCOM2
variable {q g : Nat} {m μ μ' : Mem} {p p' P Q : Nat → Int32} {l l' b b' w' n s k d d' f pl j i r a : Nat} {key val kind x w c v x0 x1 x2 : Int32} {B C : Int}
-- the model
theorem sS_ne {k : Nat} (h : i ≠ k) : sS p k x i = p i := upd_ne h
theorem nLeft_q (ha : a < 2) : nLeft (wholeQ p a) = nLeft p := by
  unfold nLeft
  refine ct_cg 32 (fun b hb => ?_)
  rw [wholeQ_gB ha hb (by decide)]
theorem doCommit_r (hi : INV B p) (hD : HasDraft p) (ha : a = 1 - cur p) (hs : s < 4) : f_X7_doCommit q (nI s) (rst m (q + 1) p) = if s = 3 then some (nI (nLeft p), rst m (q + 1) (wholeP p a)) else some (-1000, rst m (q + 1) (lostP p a (vx2 p a s) (vx0 p a s) (vx1 p a s))) := by
  have hc := cur_lt (p := p)
  have ha2 : a < 2 := by omega
  have n467 : ¬ p 467 < 0 := hD.nlt
  have w2 : ∀ (P : Nat → Int32) (x : Int32), wr (rst m (q + 1) P) (q + 1) 470 (nI (448 + 3 * a + 2)) x = some (rst m (q + 1) (sS P (448 + 3 * a + 2) x)) := fun P x => sS_r (by omega)
  have w0 : ∀ (P : Nat → Int32) (x : Int32), wr (rst m (q + 1) P) (q + 1) 470 (nI (448 + 3 * a + 0)) x = some (rst m (q + 1) (sS P (448 + 3 * a + 0) x)) := fun P x => sS_r (by omega)
  have w1 : ∀ (P : Nat → Int32) (x : Int32), wr (rst m (q + 1) P) (q + 1) 470 (nI (448 + 3 * a + 1)) x = some (rst m (q + 1) (sS P (448 + 3 * a + 1) x)) := fun P x => sS_r (by omega)
  have w8 : ∀ (P : Nat → Int32) (x : Int32), wr (rst m (q + 1) P) (q + 1) 470 468 x = some (rst m (q + 1) (sS P 468 x)) := fun P x => by rw [show (468 : Int32) = nI 468 from rfl]; exact sS_r (by omega)
  have w9 : ∀ (P : Nat → Int32) (x : Int32), wr (rst m (q + 1) P) (q + 1) 470 469 x = some (rst m (q + 1) (sS P 469 x)) := fun P x => by rw [show (469 : Int32) = nI 469 from rfl]; exact sS_r (by omega)
  have r2 : ∀ (P : Nat → Int32), rd 470 P (nI (448 + 3 * a + 2)) = some (P (448 + 3 * a + 2)) := fun P => rd_n (by omega) (by decide)
  have r0 : ∀ (P : Nat → Int32), rd 470 P (nI (448 + 3 * a + 0)) = some (P (448 + 3 * a + 0)) := fun P => rd_n (by omega) (by decide)
  have r1 : ∀ (P : Nat → Int32), rd 470 P (nI (448 + 3 * a + 1)) = some (P (448 + 3 * a + 1)) := fun P => rd_n (by omega) (by decide)
  have r6 : ∀ (P : Nat → Int32), rd 470 P 466 = some (P 466) := fun P => rd_c 466 rfl (by decide) (by decide)
  have r7 : ∀ (P : Nat → Int32), rd 470 P 467 = some (P 467) := fun P => rd_c 467 rfl (by decide) (by decide)
  have r8 : ∀ (P : Nat → Int32), rd 470 P 468 = some (P 468) := fun P => rd_c 468 rfl (by decide) (by decide)
  have r9 : ∀ (P : Nat → Int32), rd 470 P 469 = some (P 469) := fun P => rd_c 469 rfl (by decide) (by decide)
  have hin : f_X7_in (nI s) 0 3 = some 1 := by
    rcases below_in (nI s) (n := 4) (N := 4) (M := 3) (by decide) (by decide) rfl rfl with ⟨kk, hk, -, -, e2⟩ | ⟨e1, -⟩
    · exact e2
    · unfold f_X6_isBelow at e1
      rw [if_neg (nI_nz (by omega)), if_neg (nlI (c := 4) 4 s rfl hs (by decide))] at e1
      exact absurd e1 (by decide)
  have hd9 : ∀ x2 x0 x1 : Int32, dMe (rtS p a x2 x0 x1) 469 = p 469 := fun x2 x0 x1 => by
    rw [dMe_hi (by decide), if_neg (by decide), if_neg (by decide), rtS_ne (by omega)]
  unfold f_X7_doCommit
  rw [hin, Option.bind_some, if_neg (by decide), rst_eq, r6, Option.bind_some, if_neg (by rw [hD.1]; decide), r7, Option.bind_some, if_pos (Int32.not_lt.mp n467), current_n, rst_eq, Option.bind_some, ofCur_n, Option.bind_some, Option.bind_some, aix0 ha, aix (x := 2) 2 rfl]
  unfold f_X7_doCommit_b96 f_X7_doCommit_b121 f_X7_doCommit_b153
  rw [aix (x := 0) 0 rfl, aix (x := 1) 1 rfl]
  have hv : ∀ s x2 x0 x1, vx2 p a s = x2 → vx0 p a s = x0 → vx1 p a s = x1 → lostP p a (vx2 p a s) (vx0 p a s) (vx1 p a s) = sS (dMe (sS (sS (sS p (448 + 3 * a + 2) x2) (448 + 3 * a + 0) x0) (448 + 3 * a + 1) x1)) 469 (p 469 + 1) := fun s x2 x0 x1 e2 e0 e1 => by
    rw [e2, e0, e1]
    unfold lostP rtS
    rfl
  have hcs : s = 0 ∨ s = 1 ∨ s = 2 ∨ s = 3 := by omega
  rcases hcs with rfl | rfl | rfl | rfl
  · rw [if_pos (show nI 0 = (0 : Int32) from rfl), r2, Option.bind_some, w2, Option.bind_some, if_neg (show ¬ (2 : Int32) ≤ nI 0 by decide), rst_eq, r0, Option.bind_some, w0, Option.bind_some, if_neg (show ¬ (2 : Int32) ≤ nI 0 by decide), rst_eq, r1, Option.bind_some, w1, Option.bind_some, if_neg (show ¬ (3 : Int32) ≤ nI 0 by decide), drops_r, bn2_some, rst_eq, r9, Option.bind_some, w9, Option.bind_some, if_neg (show ¬ 0 = 3 by decide)]
    rw [sS_ne (p := p) (show 448 + 3 * a + 0 ≠ 448 + 3 * a + 2 by omega), sS_ne (show 448 + 3 * a + 1 ≠ 448 + 3 * a + 0 by omega), sS_ne (p := p) (show 448 + 3 * a + 1 ≠ 448 + 3 * a + 2 by omega)]
    have e := hd9 (p (448 + 3 * a + 2)) (p (448 + 3 * a + 0)) (p (448 + 3 * a + 1))
    unfold rtS at e
    rw [e, hv 0 (p (448 + 3 * a + 2)) (p (448 + 3 * a + 0)) (p (448 + 3 * a + 1)) (by unfold vx2; rw [if_pos rfl]; rfl) (by unfold vx0; rw [if_pos (by decide)]; rfl) (by unfold vx1; rw [if_pos (by decide)]; rfl)]
  · rw [if_neg (show ¬ nI 1 = (0 : Int32) by decide), w2, Option.bind_some, if_neg (show ¬ (2 : Int32) ≤ nI 1 by decide), rst_eq, r0, Option.bind_some, w0, Option.bind_some, if_neg (show ¬ (2 : Int32) ≤ nI 1 by decide), rst_eq, r1, Option.bind_some, w1, Option.bind_some, if_neg (show ¬ (3 : Int32) ≤ nI 1 by decide), drops_r, bn2_some, rst_eq, r9, Option.bind_some, w9, Option.bind_some, if_neg (show ¬ 1 = 3 by decide)]
    rw [sS_ne (p := p) (show 448 + 3 * a + 0 ≠ 448 + 3 * a + 2 by omega), sS_ne (show 448 + 3 * a + 1 ≠ 448 + 3 * a + 0 by omega), sS_ne (p := p) (show 448 + 3 * a + 1 ≠ 448 + 3 * a + 2 by omega)]
    have e := hd9 0 (p (448 + 3 * a + 0)) (p (448 + 3 * a + 1))
    unfold rtS at e
    rw [e, hv 1 0 (p (448 + 3 * a + 0)) (p (448 + 3 * a + 1)) (by unfold vx2; rw [if_neg (by decide), if_neg (by decide)]) (by unfold vx0; rw [if_pos (by decide)]; rfl) (by unfold vx1; rw [if_pos (by decide)]; rfl)]
  · rw [if_neg (show ¬ nI 2 = (0 : Int32) by decide), w2, Option.bind_some, if_pos (show (2 : Int32) ≤ nI 2 by decide), w0, Option.bind_some, if_pos (show (2 : Int32) ≤ nI 2 by decide), rst_eq, r7, Option.bind_some, w1, Option.bind_some, if_neg (show ¬ (3 : Int32) ≤ nI 2 by decide), drops_r, bn2_some, rst_eq, r9, Option.bind_some, w9, Option.bind_some, if_neg (show ¬ 2 = 3 by decide)]
    rw [sS_ne (show 467 ≠ 448 + 3 * a + 0 by omega), sS_ne (p := p) (show 467 ≠ 448 + 3 * a + 2 by omega)]
    have e := hd9 0 (gR p (cur p) 0 + 1) (p 467)
    unfold rtS at e
    rw [e, hv 2 0 (gR p (cur p) 0 + 1) (p 467) (by unfold vx2; rw [if_neg (by decide), if_neg (by decide)]) (by unfold vx0; rw [if_neg (by decide)]) (by unfold vx1; rw [if_neg (by decide)])]
  · rw [if_neg (show ¬ nI 3 = (0 : Int32) by decide), w2, Option.bind_some, if_pos (show (2 : Int32) ≤ nI 3 by decide), w0, Option.bind_some, if_pos (show (2 : Int32) ≤ nI 3 by decide), rst_eq, r7, Option.bind_some, w1, Option.bind_some, if_pos (show (3 : Int32) ≤ nI 3 by decide), aix (x := 2) 2 rfl, w2, Option.bind_some, rst_eq, r8, Option.bind_some, w8, Option.bind_some, frees_r, bn2_some, if_pos rfl]
    rw [sS_ne (show 467 ≠ 448 + 3 * a + 0 by omega), sS_ne (p := p) (show 467 ≠ 448 + 3 * a + 2 by omega)]
    have e8 : sS (rtS p a 0 (gR p (cur p) 0 + 1) (p 467)) (448 + 3 * a + 2) 1 468 = p 468 := by
      rw [sS_ne (by omega)]
      exact rtS_ne (by omega)
    have en := nLeft_q (p := p) ha2
    have ew : wholeP p a = fMe (gR p (cur p) 0 + 1) (sS (sS (sS (sS (sS p (448 + 3 * a + 2) 0) (448 + 3 * a + 0) (gR p (cur p) 0 + 1)) (448 + 3 * a + 1) (p 467)) (448 + 3 * a + 2) 1) 468 (p 468 + 1)) := by
      unfold wholeP wholeQ rtS
      rfl
    unfold wholeQ at en
    unfold rtS at e8 en
    rw [e8, en, ew]
theorem do_commit (h : RG g μ p) (hi : INV B p) (hB : B < 1000000) : DoS (f_X4_commitFault g x) (f_X4_commitDraft g x) (fun q m => f_X7_doCommit q x m) R23 g μ p (B + 1) := by
  unfold DoS
  rcases below_in x (n := 4) (N := 4) (M := 3) (by decide) (by decide) rfl rfl with ⟨s, hs, rfl, e1, e2⟩ | ⟨e1, e2⟩
  · rcases hi.2.2.2.2.1 with c0 | c1
    · refine Or.inr ⟨3, 2, Or.inr ⟨rfl, rfl⟩, ?_, fun q m => ?_⟩
      · unfold f_X4_commitFault f_X4_commitFault_b22
        rw [e1, Option.bind_some, if_neg (by decide), show μ g 6 = p 466 from h.2.2.2.1, if_pos c0]
      · show f_X7_doCommit q (nI s) (rst m (q + 1) p) = _
        unfold f_X7_doCommit
        rw [e2, Option.bind_some, if_neg (by decide), rst_eq, rd_c (i := 466) 466 rfl (by decide) (by decide), Option.bind_some, if_pos c0]
        rfl
    · have hF : f_X4_commitFault g (nI s) μ = some 0 := by
        unfold f_X4_commitFault f_X4_commitFault_b22
        rw [e1, Option.bind_some, if_neg (by decide), show μ g 6 = p 466 from h.2.2.2.1, if_neg (by rw [c1]; decide)]
      by_cases hl : p 467 < 0
      · have hND : NoDraft p := by
          rcases hi.2.2.2.2.2.1 with z | z
          · exact z
          · exact absurd hl z.nlt
        have en : nNew p = 0 := by
          unfold nNew
          have e : ct (fun b => decide (gB p b 4 = 1)) 32 = ct (fun _ => false) 32 := ct_cg 32 (fun b hb => by rw [(hND.2 b hb).1]; rfl)
          rw [e]
          rfl
        obtain ⟨μ', a1, a2, a3⟩ := h.dropDraft hi
        have hb := h.draftBed hi c1
        have hfr : f_X1_isFresh (g + 1) (μ g 7) μ = some 0 := by
          rw [hb, h.fresh hi.dd.2.1, hi.fresh, if_pos hl]
          rfl
        have eg : ∀ b w, b < 32 → w < 14 → gB (dMe p) b w = gB p b w := fun b w hb hw => by
          rw [dMe_drop b w hb hw, if_neg (by rw [(hND.2 b hb).1]; decide)]
          by_cases c5 : w = 5
          · rw [if_pos c5, c5, (hND.2 b hb).2]
          · rw [if_neg c5]
        have hG : RG g (mst (mst μ g 6 0) g 7 (-1000)) (dMe p) := by
          refine h.gone ((h.1.fr (fun z z1 z2 => by rw [mst_ne (by omega), mst_ne (by omega)])).cg eg) (fun r hr => ?_) (by rw [mst_ne (by omega), mst_ne (by omega)]) (by rw [mst_ne (by omega), mst_ne (by omega)]) (fun r v hr hv => dMe_D hr hv) (by rw [mst_eq, upd_ne (by decide), mst_eq, upd_eq]) (by rw [mst_eq, upd_eq]) (by rw [dMe_hi (by decide), if_neg (by decide), if_pos rfl]) ?_ ?_
          · rw [mst_ne (by omega), mst_ne (by omega), mst_ne (by omega), mst_ne (by omega), mst_ne (by omega), mst_ne (by omega), dMe_R hr (by decide), dMe_R hr (by decide), dMe_R hr (by decide)]
            exact h.2.1 r hr
          · rw [mst_eq, upd_ne (by decide), mst_eq, upd_ne (by decide), dMe_hi (by decide), if_neg (by decide), if_neg (by decide)]
            exact h.2.2.2.2.2.1
          · rw [mst_eq, upd_ne (by decide), mst_eq, upd_ne (by decide), dMe_hi (by decide), if_neg (by decide), if_neg (by decide)]
            exact h.2.2.2.2.2.2
        refine Or.inl ⟨0, dMe p, _, hF, ?_, hG, fun k hk => by rw [mst_ne (by omega), mst_ne (by omega)], (INV_dMe hi).weaken (by omega), fun q m f => ⟨f, ?_⟩⟩
        · unfold f_X4_commitDraft f_X4_endDraft pf
          rw [hfr, Option.bind_some, if_pos rfl, Option.bind_some, Option.bind_some, Option.bind_some]
        · show f_X7_doCommit q (nI s) (rst (rst m (q + 5) f) (q + 1) p) = _
          unfold f_X7_doCommit
          rw [e2, Option.bind_some, if_neg (by decide), rst_eq, rd_c (i := 466) 466 rfl (by decide) (by decide), Option.bind_some, if_neg (by rw [c1]; decide), rd_c (i := 467) 467 rfl (by decide) (by decide), Option.bind_some, if_neg (Int32.not_le.mpr hl), drops_r, bn2_some, en]
          rfl
      · have hD := hi.draft hl
        obtain ⟨a, ha⟩ : ∃ a, a = 1 - cur p := ⟨_, rfl⟩
        have ha2 : a < 2 := by omega
        by_cases c3 : s = 3
        · obtain ⟨μ', a1, a2, a3⟩ := h.commit3 hi hD hB ha
          refine Or.inl ⟨nI (nLeft p), wholeP p a, μ', hF, by rw [c3]; exact a1, a2, a3, INV_whole hi hD hB ha, fun q m f => ⟨f, ?_⟩⟩
          have e := doCommit_r (q := q) (m := rst m (q + 5) f) hi hD ha hs
          rw [if_pos c3] at e
          exact e
        · obtain ⟨μ', a1, a2, a3⟩ := h.commitL hi hD ha (s := s) (by omega)
          obtain ⟨s1, s2, s3⟩ := cnt_succ hi hB
          have hI : INV B (lostP p a (vx2 p a s) (vx0 p a s) (vx1 p a s)) := by
            refine INV_lost hi ha ?_ ?_
            · by_cases c0 : s = 0
              · refine Or.inl ⟨if_pos c0, if_pos (by omega)⟩
              · exact Or.inr ((if_neg c0).trans (if_neg c3))
            · unfold vx0
              split
              · exact (hi.1.1 a ha2).2
              · exact s2
          refine Or.inl ⟨-1000, _, μ', hF, a1, a2, a3, hI.weaken (by omega), fun q m f => ⟨f, ?_⟩⟩
          have e := doCommit_r (q := q) (m := rst m (q + 5) f) hi hD ha hs
          rw [if_neg c3] at e
          exact e
  · refine Or.inr ⟨2, 1, Or.inl ⟨rfl, rfl⟩, ?_, fun q m => ?_⟩
    · unfold f_X4_commitFault
      rw [e1, Option.bind_some, if_pos rfl]
    · show f_X7_doCommit q x (rst m (q + 1) p) = _
      unfold f_X7_doCommit
      rw [e2, Option.bind_some, if_pos rfl]
      rfl
end PCOM2
