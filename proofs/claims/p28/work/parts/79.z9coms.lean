/-! p28, PURE: the law's commits -/
section PZCOM
variable {q g : Nat} {μ μ0 μ1 μ' : Mem} {p p' p'' P Q : Nat → Int32} {d d' l b n k i j r f s m a w c fu z : Nat} {key val x1 x2 x3 x4 x v m1 m2 a2 : Int32} {B C : Int}
theorem end0 (h : J28 B μ p) (h7 : p 467 = -1) : f_X6_whole 0 9 μ = some 0 ∧ f_X6_whole 0 10 μ = some 0 := by
  have hND := nodraft2 h.2.1 (by rw [h7]; decide)
  have e9 := wh9 h
  have e10 := wh10 h
  rw [nNew_0 hND] at e9
  rw [nLeft_0 hND] at e10
  exact ⟨e9, e10⟩
theorem rt3_y (h : J28 B μ p) (hr : r < 2) (e : r = cur p) : f_X6_root 0 (nI r) 3 μ = some 1 := by
  rw [rt3 h hr, if_pos e]
/-- a commit with nothing new -/
theorem coms_a (h : J28 B μ p) (hs : s < 4) (hk : k < 100) (c1 : p 466 = 1) (hl : p 467 < 0) : ∃ p' μ', f_L_commit 0 (nI s) μ = some (0, μ') ∧ J28 (B + 1) μ' p' ∧ p' 466 = 0 ∧ f_L_commits_b167 0 (nI s) (nI k) (dft p (nI k)) (nI (nNew p)) (nI (nLeft p)) (nI (cur p)) (gR p (cur p) 0) (tst p 2) (p 468) (p 469) (nI (ens p (cd p))) 0 1 μ' = some (1, μ') ∧ p' 467 = -1 := by
  obtain ⟨μ', e1, e2⟩ := Lcom_of (v := 0) (P := dMe p) (C := B + 1) h hs c1 (fun μ1 hG => ⟨_, com0 hG h.2.1 c1 hl⟩) ((INV_dMe h.2.1).weaken (by omega)) (WX_dMe h.2.1 h.2.2.1)
  have hc : cur (dMe p) = cur p := cur_cg (fun r v hr hv => dMe_R hr hv)
  have ecd : cd (dMe p) = cd p := cd_of (by unfold nowp; rw [hc, dMe_R cur_lt (by decide)])
  have g6 : dMe p 466 = 0 := by rw [dMe_hi (by decide), if_neg (by decide), if_pos rfl]
  have g7 : dMe p 467 = -1 := by rw [dMe_hi (by decide), if_pos rfl]
  have g8 : dMe p 468 = p 468 := by rw [dMe_hi (by decide), if_neg (by decide), if_neg (by decide)]
  have g9 : dMe p 469 = p 469 := by rw [dMe_hi (by decide), if_neg (by decide), if_neg (by decide)]
  refine ⟨dMe p, μ', e1, e2, g6, ?_, g7⟩
  have eg : vby (dMe p) (cd (dMe p)) (nI k) = dft p (nI k) := by
    rw [ecd, dft_1 c1, drd_lt hl]
    exact vby_cg (drop_cd h.2.1 dMe_drop) h.2.1.2.2.1.2.1
  unfold f_L_commits_b167
  rw [if_pos (show nI (nNew p) = 0 by rw [nNew_0 (nodraft2 h.2.1 hl)]; rfl), if_neg (by decide), if_pos rfl, rt3_y e2 cur_lt hc.symm, Option.bind_some, if_pos rfl, wh11 e2, Option.bind_some, if_pos g8, wh12 e2, Option.bind_some, if_pos g9, get_e e2 hk, Option.bind_some, if_pos eg]
  rfl
/-- a whole commit -/
theorem coms_b (h : J28 B μ p) (hB : B < 1000000) (hk : k < 100) (hd : HasDraft p) : ∃ p' μ', f_L_commit 0 (nI 3) μ = some (nI (nLeft p), μ') ∧ J28 (B + 1) μ' p' ∧ p' 466 = 0 ∧ f_L_commits_b167 0 (nI 3) (nI k) (dft p (nI k)) (nI (nNew p)) (nI (nLeft p)) (nI (cur p)) (gR p (cur p) 0) (tst p 2) (p 468) (p 469) (nI (ens p (cd p))) (nI (nLeft p)) 1 μ' = some (1, μ') ∧ p' 467 = -1 := by
  obtain ⟨a, ha⟩ : ∃ a, a = 1 - cur p := ⟨_, rfl⟩
  have hcl := cur_lt (p := p)
  obtain ⟨P, eP⟩ : ∃ P, P = wholeP p a := ⟨_, rfl⟩
  obtain ⟨t1, t2, t3, t4, t5, t6, t7, t8, t9, t10, t11, t12⟩ := com28 h.2.1 h.2.2.1 hd hB ha eP
  obtain ⟨μ', e1, e2⟩ := Lcom_of (v := nI (nLeft p)) (P := P) (C := B + 1) (s := 3) h (by decide) hd.1 (fun μ1 hG => by rw [eP]; exact hG.commit3 h.2.1 hd hB ha) t1 t2
  refine ⟨P, μ', e1, e2, t9, ?_, t10⟩
  have h0 : 0 < nNew p := nNew_pos hd
  have hn32 : nNew p ≤ 32 := ct_le 32
  have hL0 : 0 < nLeft p := nLeft_pos h.2.1 h.2.2.1 hd
  have hl32 : nLeft p ≤ 32 := ct_le 32
  have eg : vby P (cd P) (nI k) = dft p (nI k) := by
    rw [t4, dft_1 hd.1, drd_fdp hd]
    exact vby_cg t8 hd.2.2.1
  have eo := other_n (p := p)
  rw [← ha] at eo
  unfold f_L_commits_b167
  rw [if_neg (nI_ne0 (by omega) (by omega)), if_pos (show nI 3 = (3 : Int32) from rfl), if_neg (by decide), if_pos rfl, if_neg (show ¬ nI (nLeft p) ≤ 0 by rw [← nI_0]; exact nI_ge (by omega) (by omega)), eo, rt3_y e2 (by omega) t3.symm, Option.bind_some, if_pos rfl, rt0 e2 (by omega), Option.bind_some, if_pos t5, rt2 e2 hcl, Option.bind_some, if_pos ((t6 2 (by decide)).trans h.2.1.1.2.1), wh11 e2, Option.bind_some, if_pos t11, wh12 e2, Option.bind_some, if_pos t12, get_e e2 hk, Option.bind_some, if_pos eg, wh2 e2, Option.bind_some, if_pos (tst_free h.2.1 t7)]
  rfl
/-- a torn commit -/
theorem coms_c (h : J28 B μ p) (hB : B < 1000000) (hs : s < 3) (hk : k < 100) (hd : HasDraft p) : ∃ p' μ', f_L_commit 0 (nI s) μ = some (-1000, μ') ∧ J28 (B + 1) μ' p' ∧ p' 466 = 0 ∧ f_L_commits_b167 0 (nI s) (nI k) (dft p (nI k)) (nI (nNew p)) (nI (nLeft p)) (nI (cur p)) (gR p (cur p) 0) (tst p 2) (p 468) (p 469) (nI (ens p (cd p))) (-1000) 1 μ' = some (1, μ') ∧ p' 467 = -1 := by
  obtain ⟨a, ha⟩ : ∃ a, a = 1 - cur p := ⟨_, rfl⟩
  have hcl := cur_lt (p := p)
  obtain ⟨P, eP⟩ : ∃ P, P = lostP p a (vx2 p a s) (vx0 p a s) (vx1 p a s) := ⟨_, rfl⟩
  obtain ⟨t1, t2, t3, t4, t5, t6, ⟨t7, t8⟩, t9, t10, t11, t12⟩ := lost28 h.2.1 h.2.2.1 hB ha hs eP
  obtain ⟨μ', e1, e2⟩ := Lcom_of (v := -1000) (P := P) (C := B + 1) (s := s) h (by omega) hd.1 (fun μ1 hG => by rw [eP]; exact hG.commitL h.2.1 hd ha hs) (t1.weaken (by omega)) t2
  refine ⟨P, μ', e1, e2, t9, ?_, t10⟩
  have h0 : 0 < nNew p := nNew_pos hd
  have hn32 : nNew p ≤ 32 := ct_le 32
  have eo := other_n (p := p)
  rw [← ha] at eo
  have ecd : cd P = cd p := cd_of (by unfold nowp; rw [t3, t4 1 (by decide)])
  have ee : nI (ens P (cd P)) = nI (ens p (cd p)) := by
    rw [ecd, ens_cg (drop_cd h.2.1 t6)]
  have e423 : f_L_commits_b423 0 (tst p 2) (p 468) (p 469) (nI (ens p (cd p))) μ' = some (1, μ') := by
    unfold f_L_commits_b423
    rw [wh11 e2, Option.bind_some, if_pos t11, wh12 e2, Option.bind_some, if_pos t12, wh5 e2, Option.bind_some, if_pos ee, wh2 e2, Option.bind_some, if_pos (tst_drop h.2.1 t6)]
    rfl
  have e402 : f_L_commits_b402 0 (nI s) (nI (cur p)) (gR p (cur p) 0) (tst p 2) (p 468) (p 469) (nI (ens p (cd p))) μ' = some (1, μ') := by
    unfold f_L_commits_b402
    by_cases c2 : s < 2
    · rw [if_pos (show nI s < 2 from nI_lt (b := 2) c2 (by decide))]
      exact e423
    · rw [if_neg (show ¬ nI s < 2 from fun z => absurd (show (2 : Int32) ≤ nI s from nI_le (a := 2) (by omega) (by omega)) (Int32.not_le.mpr z)), eo, rt0 e2 (by omega), Option.bind_some, if_pos (t7.trans (if_neg c2))]
      exact e423
  unfold f_L_commits_b167
  rw [if_neg (nI_ne0 (by omega) (by omega)), if_neg (show ¬ nI s = (3 : Int32) from fun z => absurd (nI_inj (b := 3) (by omega) (by omega) z) (by omega)), if_neg (by decide), if_pos rfl, rt3_y e2 hcl t3.symm, Option.bind_some, if_pos rfl, rt0 e2 hcl, Option.bind_some, if_pos (t4 0 (by decide))]
  by_cases c0 : s = 0
  · rw [if_pos (show nI s = 0 by rw [c0]; rfl)]
    exact e402
  · rw [if_neg (nI_ne0 (by omega) (by omega)), eo, rt2 e2 (by omega), Option.bind_some, if_pos (t8.trans ((if_neg c0).trans (if_neg (by omega))))]
    exact e402
theorem commits_ok (h : J28 B μ p) (hB : B < 1000000) (hs : s < 4) : ∃ p' μ', f_L_commits 0 (nI s) a2 μ = some (1, μ') ∧ J28 (B + 1) μ' p' ∧ p' 466 = 0 := by
  obtain ⟨k, hk30, ek⟩ := low_n (m := 30) a2 (by decide) (by decide)
  have ek : f_L_low a2 30 = some (nI k) := ek
  have hk : k < 100 := by omega
  unfold f_L_commits
  rw [wh8 h, Option.bind_some]
  rcases h.2.1.2.2.2.2.1 with c0 | c1
  · refine ⟨p, μ, ?_, h.weaken (by omega), c0⟩
    rw [if_neg (by rw [c0]; decide)]
    unfold f_L_commits_b15
    rw [ek, Option.bind_some, Ldrafted h hk, Option.bind_some, wh9 h, Option.bind_some, wh10 h, Option.bind_some, now_e h, Option.bind_some, rt0 h cur_lt, Option.bind_some, wh2 h, Option.bind_some, wh11 h, Option.bind_some, wh12 h, Option.bind_some, wh5 h, Option.bind_some, Lcom_n h hs c0, bn2_some, if_pos rfl, if_pos rfl, wh11 h, Option.bind_some, if_pos rfl]
    rfl
  · rw [if_pos c1]
    have fin : ∀ (v : Int32) (p' : Nat → Int32) (μ' : Mem), ¬ v = -2902 → f_L_commit 0 (nI s) μ = some (v, μ') → J28 (B + 1) μ' p' → p' 466 = 0 → f_L_commits_b167 0 (nI s) (nI k) (dft p (nI k)) (nI (nNew p)) (nI (nLeft p)) (nI (cur p)) (gR p (cur p) 0) (tst p 2) (p 468) (p 469) (nI (ens p (cd p))) v 1 μ' = some (1, μ') → p' 467 = -1 → f_L_commits_b15 0 (nI s) a2 1 μ = some (1, μ') := fun v p' μ' hv e1 e2 e3 e4 e5 => by
      obtain ⟨w9, w10⟩ := end0 e2 e5
      unfold f_L_commits_b15
      rw [ek, Option.bind_some, Ldrafted h hk, Option.bind_some, wh9 h, Option.bind_some, wh10 h, Option.bind_some, now_e h, Option.bind_some, rt0 h cur_lt, Option.bind_some, wh2 h, Option.bind_some, wh11 h, Option.bind_some, wh12 h, Option.bind_some, wh5 h, Option.bind_some, e1, bn2_some, if_neg hv, if_neg (by decide), wh8 e2, Option.bind_some, if_pos e3, w9, Option.bind_some, if_pos rfl, w10, Option.bind_some, if_pos rfl]
      exact e4
    by_cases hl : p 467 < 0
    · obtain ⟨p', μ', e1, e2, e3, e4, e5⟩ := coms_a h hs hk c1 hl
      exact ⟨p', μ', fin 0 p' μ' (by decide) e1 e2 e3 e4 e5, e2, e3⟩
    · have hd := h.2.1.draft hl
      by_cases c3 : s = 3
      · subst c3
        obtain ⟨p', μ', e1, e2, e3, e4, e5⟩ := coms_b h hB hk hd
        have hl32 : nLeft p ≤ 32 := ct_le 32
        refine ⟨p', μ', fin _ p' μ' (fun z => ?_) e1 e2 e3 e4 e5, e2, e3⟩
        have q := nI_nz (k := nLeft p) (by omega)
        rw [z] at q
        exact q (by decide)
      · obtain ⟨p', μ', e1, e2, e3, e4, e5⟩ := coms_c h hB (s := s) (by omega) hk hd
        exact ⟨p', μ', fin _ p' μ' (by decide) e1 e2 e3 e4 e5, e2, e3⟩
end PZCOM
