/-! p28, PURE: the other calls that change the garden -/
section PZOP6
variable {q g : Nat} {μ μ0 μ1 μ' : Mem} {p p' p'' P Q : Nat → Int32} {d d' l b n k i j r f s m a w c fu z : Nat} {key val x1 x2 x3 x4 x v m1 m2 : Int32} {B C : Int}
-- remove
theorem remF (h : J28 B μ p) (hk : k < 100) : f_X4_removeFault (0 + 1) (nI k) μ = some 3 ∨ (f_X4_removeFault (0 + 1) (nI k) μ = some 0 ∧ p 466 = 1 ∧ vby p (drd p) (nI k) ≠ -1000 ∧ ∃ k' l i, plc p (drd p) (nI k) = some k' ∧ nB p (drd p) (6 + k') = l ∧ ein p l (nI k) = some i ∧ dN p + rmN p l ≤ many p) := by
  unfold f_X4_removeFault f_X4_removeFault_b45 f_X4_removeFault_b46
  rw [below_y 100 (n := 100) hk (by decide) rfl, Option.bind_some, if_neg (by decide), h.m6]
  rcases h.2.1.2.2.2.2.1 with c | c
  · exact Or.inl (by rw [if_pos c])
  · rw [if_neg (by rw [c]; decide), h.rg.draftedValue h.2.1 c, Option.bind_some]
    by_cases cv : vby p (drd p) (nI k) = -1000
    · exact Or.inl (by rw [if_pos cv])
    · obtain ⟨k', i, e1, e2, e3, e4, e5⟩ := vby_iff h.2.2.1.2.2.2.2.1 cv
      rw [if_neg cv, h.rg.digsRm h.2.1 c e1 rfl, Option.bind_some, h.rg.bedsToDig h.2.1, Option.bind_some]
      have hm : many p ≤ 32 := ct_le 32
      by_cases c2 : many p < dN p + rmN p (nB p (drd p) (6 + k'))
      · have h31 : dN p + rmN p (nB p (drd p) (6 + k')) < 2 ^ 31 := by
          unfold dN rmN cN
          split <;> split <;> try split
          all_goals omega
        exact Or.inl (by rw [if_pos (nI_lt c2 h31)])
      · exact Or.inr ⟨by rw [if_neg (nI_nlt (by omega) (by omega))], c, cv, k', _, i, e1, rfl, e3, by omega⟩
theorem Lrem (h : J28 B μ p) (hk : k < 100) : f_L_remove 0 (nI k) μ = some (-2902, μ) ∨ (p 466 = 1 ∧ vby p (drd p) (nI k) ≠ -1000 ∧ ∃ p' μ', f_L_remove 0 (nI k) μ = some (vby p (drd p) (nI k), μ') ∧ J28 B μ' p' ∧ KeepD p p' ∧ vby p' (drd p') (nI k) = -1000 ∧ nNew p' ≤ nNew p + 2 ∧ (nNew p ≤ nNew p' ∨ 1 < nNew p) ∧ p' 466 = 1) := by
  rcases remF h hk with e | ⟨e, c1, cv, k', l, i, e1, e2, e3, e4⟩
  · refine Or.inl ?_
    unfold f_L_remove f_X6_remove f_X6_remove_t
    rw [e, Option.bind_some, refuse33]
    rfl
  · obtain ⟨μ1, s1, s2, s3⟩ := save28 h
    obtain ⟨p', μ', a1, a2, a3, a4, a5, a6, a7, a8, a9⟩ := rem28 s2 h.2.1 h.2.2.1 c1 e1 e2 e3 e4
    obtain ⟨j1, j2⟩ := J28.done s3 a3 a2 a4 a5
    have ex : f_X6_remove 0 (nI k) μ = some (vby p (drd p) (nI k), μ') := by
      unfold f_X6_remove
      rw [e, Option.bind_some, refuse00, Option.bind_some, s1, Option.bind_some, a1, bn2_some]
    refine Or.inr ⟨c1, cv, p', μ', ?_, j1, a6, a7, a8, a9, by rw [a6.1 466 (by decide) (by decide)]; exact c1⟩
    unfold f_L_remove
    rw [ex]
-- begin
theorem beg_y (h : J28 B μ p) (c0 : p 466 = 0) : ∃ p' μ', f_X6_begin 0 μ = some (gR p (cur p) 0, μ') ∧ J28 B μ' p' ∧ p' 466 = 1 ∧ p' 467 = -1 ∧ Lo p p' := by
  obtain ⟨-, -, b1, -⟩ := beg28 h.rg h.2.1 h.2.2.1 c0
  obtain ⟨μ1, s1, s2, s3⟩ := save28 h
  obtain ⟨p', μ', -, a2, a3, a4, a5, a6, a7, a8, a9⟩ := beg28 s2 h.2.1 h.2.2.1 c0
  obtain ⟨j1, j2⟩ := J28.done s3 a4 a3 a5 a6
  refine ⟨p', μ', ?_, j1, a7, a8, a9⟩
  unfold f_X6_begin
  rw [b1, Option.bind_some, refuse00, Option.bind_some, s1, Option.bind_some, a2, bn2_some]
theorem Lbeg_n (h : J28 B μ p) (c1 : p 466 = 1) : f_L_begin 0 μ = some (-2902, μ) := by
  unfold f_L_begin f_X6_begin f_X6_begin_t f_X4_beginFault f_X4_beginFault_b12
  rw [h.m6, if_neg (by rw [c1]; decide), Option.bind_some, refuse33]
  rfl
-- abort
theorem Labort_n (h : J28 B μ p) (c0 : p 466 = 0) : f_L_abort 0 μ = some (-2902, μ) := by
  unfold f_L_abort f_X6_abort f_X6_abort_t f_X4_abortFault f_X4_abortFault_b12
  rw [h.m6, if_pos c0, Option.bind_some, refuse33]
  rfl
theorem Labort_y (h : J28 B μ p) (c1 : p 466 = 1) : ∃ μ', f_L_abort 0 μ = some (nI (nNew p), μ') ∧ J28 B μ' (dMe p) := by
  obtain ⟨μ1, s1, s2, s3⟩ := save28 h
  obtain ⟨μ', a1, a2, a3⟩ := s2.dropDraft h.2.1
  obtain ⟨j1, j2⟩ := J28.done s3 a3 a2 (INV_dMe h.2.1) (WX_dMe h.2.1 h.2.2.1)
  refine ⟨μ', ?_, j1⟩
  have ex : f_X6_abort 0 μ = some (nI (nNew p), μ') := by
    unfold f_X6_abort f_X4_abortFault f_X4_abortFault_b12
    rw [h.m6, if_neg (by rw [c1]; decide), Option.bind_some, refuse00, Option.bind_some, s1, Option.bind_some, a1, bn2_some]
  unfold f_L_abort
  rw [ex]
-- commit
theorem comF (h : J28 B μ p) (hs : s < 4) : f_X4_commitFault (0 + 1) (nI s) μ = some (if p 466 = 0 then 3 else 0) := by
  unfold f_X4_commitFault f_X4_commitFault_b22
  rw [below_y 4 (n := 4) hs (by decide) rfl, Option.bind_some, if_neg (by decide), h.m6]
  by_cases c : p 466 = 0
  · rw [if_pos c, if_pos c]
  · rw [if_neg c, if_neg c]
theorem Lcom_n (h : J28 B μ p) (hs : s < 4) (c0 : p 466 = 0) : f_L_commit 0 (nI s) μ = some (-2902, μ) := by
  unfold f_L_commit f_X6_commit f_X6_commit_t
  rw [comF h hs, if_pos c0, Option.bind_some, refuse33]
  rfl
theorem nNew_0 (hND : NoDraft p) : nNew p = 0 := by
  unfold nNew
  have e : ct (fun b => decide (gB p b 4 = 1)) 32 = ct (fun _ => false) 32 := ct_cg 32 (fun b hb => by rw [(hND.2 b hb).1]; rfl)
  rw [e]
  rfl
theorem nLeft_0 (hND : NoDraft p) : nLeft p = 0 := by
  unfold nLeft
  have e : ct (fun b => decide (gB p b 5 = 1)) 32 = ct (fun _ => false) 32 := ct_cg 32 (fun b hb => by rw [(hND.2 b hb).2]; rfl)
  rw [e]
  rfl
/-- a commit of a draft that nothing was dug for -/
theorem com0 (h : RG g μ p) (hi : INV B p) (c1 : p 466 = 1) (hl : p 467 < 0) : f_X4_commitDraft g x μ = some (0, mst (mst μ g 6 0) g 7 (-1000)) ∧ RG g (mst (mst μ g 6 0) g 7 (-1000)) (dMe p) ∧ GFr g μ (mst (mst μ g 6 0) g 7 (-1000)) := by
  have hND := nodraft2 hi hl
  have hb := h.draftBed hi c1
  have hfr : f_X1_isFresh (g + 1) (μ g 7) μ = some 0 := by
    rw [hb, h.fresh hi.dd.2.1, hi.fresh, if_pos hl]
    rfl
  have eg : ∀ b w, b < 32 → w < 14 → gB (dMe p) b w = gB p b w := fun b w hb hw => by
    rw [dMe_drop b w hb hw, if_neg (by rw [(hND.2 b hb).1]; decide)]
    by_cases c5 : w = 5
    · rw [if_pos c5, c5, (hND.2 b hb).2]
    · rw [if_neg c5]
  refine ⟨?_, ?_, fun k hk => by rw [mst_ne (by omega), mst_ne (by omega)]⟩
  · unfold f_X4_commitDraft f_X4_endDraft pf
    rw [hfr, Option.bind_some, if_pos rfl, Option.bind_some, Option.bind_some, Option.bind_some]
  · refine h.gone ((h.1.fr (fun z z1 z2 => by rw [mst_ne (by omega), mst_ne (by omega)])).cg eg) (fun r hr => ?_) (by rw [mst_ne (by omega), mst_ne (by omega)]) (by rw [mst_ne (by omega), mst_ne (by omega)]) (fun r v hr hv => dMe_D hr hv) (by rw [mst_eq, upd_ne (by decide), mst_eq, upd_eq]) (by rw [mst_eq, upd_eq]) (by rw [dMe_hi (by decide), if_neg (by decide), if_pos rfl]) ?_ ?_
    · rw [mst_ne (by omega), mst_ne (by omega), mst_ne (by omega), mst_ne (by omega), mst_ne (by omega), mst_ne (by omega), dMe_R hr (by decide), dMe_R hr (by decide), dMe_R hr (by decide)]
      exact h.2.1 r hr
    · rw [mst_eq, upd_ne (by decide), mst_eq, upd_ne (by decide), dMe_hi (by decide), if_neg (by decide), if_neg (by decide)]
      exact h.2.2.2.2.2.1
    · rw [mst_eq, upd_ne (by decide), mst_eq, upd_ne (by decide), dMe_hi (by decide), if_neg (by decide), if_neg (by decide)]
      exact h.2.2.2.2.2.2
theorem Lcom_of (h : J28 B μ p) (hs : s < 4) (c1 : p 466 = 1) (hop : ∀ μ1, RG (0 + 1) μ1 p → ∃ μ', f_X4_commitDraft (0 + 1) (nI s) μ1 = some (v, μ') ∧ RG (0 + 1) μ' P ∧ GFr (0 + 1) μ1 μ') (hI : INV C P) (hW : WX P) : ∃ μ', f_L_commit 0 (nI s) μ = some (v, μ') ∧ J28 C μ' P := by
  obtain ⟨μ1, s1, s2, s3⟩ := save28 h
  obtain ⟨μ', a1, a2, a3⟩ := hop μ1 s2
  obtain ⟨j1, j2⟩ := J28.done s3 a3 a2 hI hW
  refine ⟨μ', ?_, j1⟩
  have ex : f_X6_commit 0 (nI s) μ = some (v, μ') := by
    unfold f_X6_commit
    rw [comF h hs, if_neg (by rw [c1]; decide), Option.bind_some, refuse00, Option.bind_some, s1, Option.bind_some, a1, bn2_some]
  unfold f_L_commit
  rw [ex]
-- readers
theorem Lopen (h : J28 B μ p) : (f_L_open 0 μ = some (-2902, μ) ∧ ∀ r, r < 4 → gD p r 0 = 1) ∨ ∃ r μ', r < 4 ∧ gD p r 0 = 0 ∧ f_L_open 0 μ = some (nI r, μ') ∧ J28 B μ' (rdS p r 1 (gR p (cur p) 0) (nowp p)) := by
  cases e : sr (fun r => !decide (gD p r 0 = 1)) 4 0 with
  | none =>
    refine Or.inl ⟨?_, fun r hr => ?_⟩
    · unfold f_L_open f_X6_open f_X6_open_t f_X4_openFault f_X4_openFault_b15
      rw [h.rg.lowest h.2.1.1, e, Option.bind_some, if_pos (show oI (-1000) none = -1000 from rfl), Option.bind_some, refuse33]
      rfl
    · have q := sr_none 4 0 e r (by omega) (by omega)
      rcases (h.2.1.1.2.2 r hr).1 with z | z
      · rw [z] at q
        exact absurd q (by decide)
      · exact z
  | some r =>
    have q := sr_some _ _ _ e
    have hr4 : r < 4 := by omega
    have h0 : gD p r 0 = 0 := by
      rcases (h.2.1.1.2.2 r hr4).1 with z | z
      · exact z
      · have q3 := q.2.2.1
        rw [z] at q3
        exact absurd q3 (by decide)
    obtain ⟨μ1, s1, s2, s3⟩ := save28 h
    have hI : INV B (rdS p r 1 (gR p (cur p) 0) (nowp p)) := INV_reader h.2.1 hr4 (fun i h => rdS_ne h) (Or.inr rdS_at)
    have hW : WX (rdS p r 1 (gR p (cur p) 0) (nowp p)) := WX_reader h.2.1 h.2.2.1 hr4 (fun i h => rdS_ne h) (Or.inr rdS_at)
    have hG := s2.reader hr4 (x := 1) (y := gR p (cur p) 0) (z := nowp p) (gR p (cur p) 0) (nowp p) (if_pos rfl).symm (if_pos rfl).symm
    obtain ⟨j1, j2⟩ := J28.done s3 (μ' := mst (mst μ1 (0 + 1 + 14) r (gR p (cur p) 0)) (0 + 1 + 15) r (nowp p)) (fun k hk => by rw [mst_ne (by omega), mst_ne (by omega)]) hG hI hW
    refine Or.inr ⟨r, _, hr4, h0, ?_, j1⟩
    have ex : f_X6_open 0 μ = some (nI r, mst (mst μ1 (0 + 1 + 14) r (gR p (cur p) 0)) (0 + 1 + 15) r (nowp p)) := by
      have eo : f_X4_openReader (0 + 1) μ1 = some (nI r, mst (mst μ1 (0 + 1 + 14) r (gR p (cur p) 0)) (0 + 1 + 15) r (nowp p)) := by
        unfold f_X4_openReader
        rw [s2.lowest h.2.1.1, e, Option.bind_some, show oI (-1000) (some r) = nI r from rfl, s2.curCountR h.2.1.1, Option.bind_some, setCell_n hr4 (by decide), Option.bind_some, curDir_cg (μ := μ1) (mst_ne (by omega)) (mst_ne (by omega)) (mst_ne (by omega)), s2.curDir h.2.1, Option.bind_some, setCell_n hr4 (by decide), Option.bind_some, ← h.2.1.2.2.1.1]
      unfold f_X6_open f_X4_openFault f_X4_openFault_b15
      rw [h.rg.lowest h.2.1.1, e, Option.bind_some, if_neg (show ¬ oI (-1000) (some r) = -1000 from not_none (nI_pos' (by omega))), Option.bind_some, refuse00, Option.bind_some, s1, Option.bind_some, eo, bn2_some]
    unfold f_L_open
    rw [ex]
theorem Lclose_n (h : J28 B μ p) (hr : r < 4) (ho : ¬ gD p r 0 = 1) : f_L_close 0 (nI r) μ = some (-2902, μ) := by
  unfold f_L_close f_X6_close f_X6_close_t
  rw [opF h hr, if_neg ho, Option.bind_some, refuse33]
  rfl
theorem Lclose_y (h : J28 B μ p) (hr : r < 4) (ho : gD p r 0 = 1) : ∃ μ', f_L_close 0 (nI r) μ = some (nI (nfree (rdS p r 0 0 0)) - nI (nfree p), μ') ∧ J28 B μ' (rdS p r 0 0 0) := by
  obtain ⟨μ1, s1, s2, s3⟩ := save28 h
  have hI : INV B (rdS p r 0 0 0) := INV_reader h.2.1 hr (fun i h => rdS_ne h) (Or.inl rdS_at.1)
  have hW : WX (rdS p r 0 0 0) := WX_reader h.2.1 h.2.2.1 hr (fun i h => rdS_ne h) (Or.inl rdS_at.1)
  have hG := s2.reader hr (x := 0) (y := 0) (z := 0) (-1000) (-1000) (if_neg (by decide)).symm (if_neg (by decide)).symm
  obtain ⟨j1, j2⟩ := J28.done s3 (μ' := mst (mst μ1 (0 + 1 + 14) r (-1000)) (0 + 1 + 15) r (-1000)) (fun k hk => by rw [mst_ne (by omega), mst_ne (by omega)]) hG hI hW
  refine ⟨_, ?_, j1⟩
  have ex : f_X6_close 0 (nI r) μ = some (nI (nfree (rdS p r 0 0 0)) - nI (nfree p), mst (mst μ1 (0 + 1 + 14) r (-1000)) (0 + 1 + 15) r (-1000)) := by
    have eo : f_X4_closeReader (0 + 1) (nI r) μ1 = some (nI (nfree (rdS p r 0 0 0)) - nI (nfree p), mst (mst μ1 (0 + 1 + 14) r (-1000)) (0 + 1 + 15) r (-1000)) := by
      unfold f_X4_closeReader
      rw [s2.needed h.2.1.1, Option.bind_some, s2.countFreed, Option.bind_some, setCell_n hr (by decide), Option.bind_some, setCell_n hr (by decide), Option.bind_some, hG.needed hI.1, Option.bind_some, hG.countFreed, Option.bind_some]
    unfold f_X6_close
    rw [opF h hr, if_pos ho, Option.bind_some, refuse00, Option.bind_some, s1, Option.bind_some, eo, bn2_some]
  unfold f_L_close
  rw [ex]
/-- the calls with a wrong argument -/
theorem wrong_put : f_L_put 0 100 0 μ = some (-2901, μ) := by
  have e : f_X6_isBelow 100 100 = some 0 := rfl
  unfold f_L_put f_X6_put f_X6_put_t f_X4_putFault f_X4_putFault_b23
  rw [e, Option.bind_some, if_pos rfl, Option.bind_some, refuse22]
  rfl
theorem wrong_rem : f_L_remove 0 (-1) μ = some (-2901, μ) := by
  have e : f_X6_isBelow (-1) 100 = some 0 := rfl
  unfold f_L_remove f_X6_remove f_X6_remove_t f_X4_removeFault
  rw [e, Option.bind_some, if_pos rfl, Option.bind_some, refuse22]
  rfl
theorem wrong_com : f_L_commit 0 4 μ = some (-2901, μ) := by
  have e : f_X6_isBelow 4 4 = some 0 := rfl
  unfold f_L_commit f_X6_commit f_X6_commit_t f_X4_commitFault
  rw [e, Option.bind_some, if_pos rfl, Option.bind_some, refuse22]
  rfl
theorem wrong_close : f_L_close 0 4 μ = some (-2903, μ) := by
  have e : f_X6_isBelow 4 4 = some 0 := rfl
  unfold f_L_close f_X6_close f_X6_close_t f_X4_openReaderFault
  rw [e, Option.bind_some, if_pos rfl, Option.bind_some, refuse11]
  rfl
theorem wrong_read : f_L_read 0 (-1) 0 μ = some (-2903) := by
  have e : f_X6_isBelow (-1) 4 = some 0 := rfl
  unfold f_L_read f_X6_read f_X6_read_t f_X4_readFault
  rw [e, Option.bind_some, if_pos rfl, Option.bind_some, refuse11]
  rfl
theorem wrong_since : f_L_since 0 4 μ = some (-2903) := by
  have e : f_X6_isBelow 4 4 = some 0 := rfl
  unfold f_L_since f_X6_changedSince f_X6_changedSince_t f_X4_openReaderFault
  rw [e, Option.bind_some, if_pos rfl, Option.bind_some, refuse11]
  rfl
theorem wrong_reason : f_L_reason 0 100 μ = some (-2901) := by
  have e : f_X6_isBelow 100 100 = some 0 := rfl
  unfold f_L_reason f_X6_reason f_X6_reason_t f_X4_draftedFault
  rw [e, Option.bind_some, if_pos rfl, Option.bind_some, refuse22]
  rfl
end PZOP6
