/-! p28, PURE: the law's acts -/
section PZACT
variable {q g hw : Nat} {μ μ0 μ1 μ' : Mem} {p p' p'' P Q : Nat → Int32} {d d' l b n k i j r f s m a w c fu z : Nat} {key val x1 x2 x3 x4 x y v m1 m2 a1 a2 s0 : Int32} {B C : Int}
theorem ct_up {F G : Nat → Bool} : ∀ (n : Nat), (∀ j, j < n → F j = true → G j = true) → ct F n ≤ ct G n
  | 0, _ => Nat.le_refl _
  | n + 1, h => by
    have q := ct_up n (fun j hj => h j (by omega))
    rw [ct_s, ct_s]
    by_cases c : F n = true
    · rw [c, h n (by omega) c]
      exact Nat.add_le_add_right q _
    · rw [if_neg c]
      omega
theorem act_put (h : J28 B μ p) (hk : k < 100) (h10 : hw < 10) : ∃ p' μ', f_L_acts_b45 0 x2 (nI hw) (nI k) s0 μ = some (1, μ') ∧ J28 (B + 1) μ' p' ∧ KeepD p p' := by
  obtain ⟨t, ht, et⟩ := low_n (m := 1999) (x2 >>> (7 &&& 31)) (by decide) (by decide)
  have et : f_L_low (x2 >>> (7 &&& 31)) 1999 = some (nI t) := et
  obtain ⟨p', μ', e1, e2, e3⟩ := puts_ok (val := nI t - 999) h hk (val_ok ht)
  refine ⟨p', μ', ?_, e2.weaken (by omega), e3⟩
  unfold f_L_acts_b45
  rw [if_neg (nlI (c := 10) 10 hw rfl h10 (by omega)), et, Option.bind_some, e1, bn2_some]
  rfl
theorem act_rem (h : J28 B μ p) (hk : k < 100) (h10 : 10 ≤ hw) (h12 : hw < 12) : ∃ p' μ', f_L_acts_b45 0 x2 (nI hw) (nI k) s0 μ = some (1, μ') ∧ J28 (B + 1) μ' p' ∧ KeepD p p' := by
  unfold f_L_acts_b45
  rw [if_pos (lI (c := 10) 10 hw rfl h10 (by omega)), if_neg (nlI (c := 12) 12 hw rfl h12 (by omega)), Ldrafted h hk, Option.bind_some, wh9 h, Option.bind_some]
  rcases Lrem h hk with e | ⟨c1, cv, p', μ', e1, e2, e3, e4, e5, e6, e7⟩
  · refine ⟨p, μ, ?_, h.weaken (by omega), KeepD.rf⟩
    rw [e, bn2_some, if_pos rfl, Ldrafted h hk, Option.bind_some, if_pos rfl, wh9 h, Option.bind_some, if_pos rfl]
    rfl
  · refine ⟨p', μ', ?_, e2.weaken (by omega), e3⟩
    have hne := dft_ne (key := nI k) h c1
    rw [dft_1 c1] at hne ⊢
    have hn1 : nNew p ≤ 32 := ct_le 32
    have hn2 : nNew p' ≤ 32 := ct_le 32
    have e78 : ¬ nI (nNew p) + 2 < nI (nNew p') := by
      rw [show (2 : Int32) = nI 2 from rfl, nI_add]
      exact nI_nlt (by omega) (by omega)
    rw [e1, bn2_some, if_neg hne, if_pos rfl, if_neg cv, drafted_e e2 hk e7, Option.bind_some, if_pos e4, wh9 e2, Option.bind_some, if_neg e78, Option.bind_some]
    by_cases c : nNew p ≤ nNew p'
    · rw [if_pos (nI_le c (by omega))]
      rfl
    · have h1 : 1 < nNew p := e6.resolve_left c
      rw [if_neg (nI_ge (by omega) (by omega)), if_neg (show ¬ nI (nNew p) ≤ 1 from nI_ge (a := 1) (b := nNew p) h1 (by omega))]
      rfl
theorem b240_ok (h : J28 B μ p) (hB : B < 1000000) (hk : k < 100) (hs : s < 4) : ∃ p' μ', f_L_acts_b240 0 x2 (nI k) (nI s) μ = some (1, μ') ∧ J28 (B + 1) μ' p' := by
  obtain ⟨p1, μ1, e1, e2, e3⟩ := commits_ok (a2 := x2 >>> (3 &&& 31)) h hB hs
  obtain ⟨p2, μ2, f1, f2, f3, f4, f5⟩ := beg_y e2 e3
  refine ⟨p2, μ2, ?_, f2⟩
  have ed : dft p2 (nI k) = vby p2 (cd p2) (nI k) := by rw [dft_1 f3, drd_lt (by rw [f4]; decide)]
  unfold f_L_acts_b240
  rw [e1, bn2_some, now_e e2, Option.bind_some, rt0 e2 cur_lt, Option.bind_some, if_neg (by decide), f1, bn2_some, if_pos rfl, Lbeg_n f2 f3, bn2_some, if_pos rfl, Ldrafted f2 hk, Option.bind_some, get_e f2 hk, Option.bind_some, if_pos ed, (end0 f2 f4).1, Option.bind_some, if_pos rfl]
  rfl
theorem act_com (h : J28 B μ p) (hB : B < 1000000) (hk : k < 100) (h12 : 12 ≤ hw) (h15 : hw < 15) : ∃ p' μ', f_L_acts_b45 0 x2 (nI hw) (nI k) s0 μ = some (1, μ') ∧ J28 (B + 1) μ' p' := by
  unfold f_L_acts_b45
  rw [if_pos (lI (c := 10) 10 hw rfl (by omega) (by omega)), if_pos (lI (c := 12) 12 hw rfl h12 (by omega)), if_neg (nlI (c := 15) 15 hw rfl h15 (by omega)), now_e h, Option.bind_some, rt0 h cur_lt, Option.bind_some]
  by_cases c : nI hw = 12
  · obtain ⟨s, hs, es⟩ := low_n (m := 4) x2 (by decide) (by decide)
    have es : f_L_low x2 4 = some (nI s) := es
    rw [if_pos c, es, Option.bind_some]
    exact b240_ok h hB hk hs
  · rw [if_neg c]
    exact b240_ok (s := 3) h hB hk (by decide)
theorem hw_ne (h1 : hw < 2 ^ 31) (m : Nat) (hm : m < 2 ^ 31) (e : v = nI m) (hne : hw ≠ m) : ¬ nI hw = v := fun z => hne (nI_inj h1 hm (z.trans e))
theorem act_abort (h : J28 B μ p) (hs0 : s0 = p 466) : ∃ p' μ', f_L_acts_b45 0 x2 15 (nI k) s0 μ = some (1, μ') ∧ J28 (B + 1) μ' p' := by
  unfold f_L_acts_b45
  rw [if_pos (by decide), if_pos (by decide), if_pos (by decide), if_pos rfl, wh9 h, Option.bind_some, wh0 h, Option.bind_some]
  rcases h.2.1.2.2.2.2.1 with c | c
  · refine ⟨p, μ, ?_, h.weaken (by omega)⟩
    rw [Labort_n h c, bn2_some, if_pos rfl, hs0, if_pos c]
    rfl
  · obtain ⟨μ', e1, e2⟩ := Labort_y h c
    have hn1 : nNew p ≤ 32 := ct_le 32
    have g6 : dMe p 466 = 0 := by rw [dMe_hi (by decide), if_neg (by decide), if_pos rfl]
    have g7 : dMe p 467 = -1 := by rw [dMe_hi (by decide), if_pos rfl]
    refine ⟨dMe p, μ', ?_, e2.weaken (by omega)⟩
    have hne : ¬ nI (nNew p) = -2902 := fun z => by
      have q := nI_nz (k := nNew p) (by omega)
      rw [z] at q
      exact q (by decide)
    rw [e1, bn2_some, if_neg hne, if_pos rfl, wh0 e2, Option.bind_some, if_pos (tst_dMe0 h.2.1), (end0 e2 g7).1, Option.bind_some, if_pos rfl, wh8 e2, Option.bind_some, if_pos g6]
    rfl
/-- how many readers are open -/
def osum (p : Nat → Int32) : Int32 := lp (fun j (x : Int32) => x + gD p j 0) 4 0 0
theorem osum_e : osum p = 0 + gD p 0 0 + gD p 1 0 + gD p 2 0 + gD p 3 0 := rfl
theorem rdS_oth {x y z : Int32} (hj : j ≠ r) (hv : w < 3) : gD (rdS p r x y z) j w = gD p j w := rdS_ne (by omega)
theorem osum_up (hr : r < 4) (h0 : gD p r 0 = 0) (hb : ∀ j, j < 4 → gD p j 0 = 0 ∨ gD p j 0 = 1) {y z : Int32} : osum (rdS p r 1 y z) = osum p + 1 := by
  rw [osum_e, osum_e]
  have e := (rdS_at (p := p) (r := r) (x := 1) (y := y) (z := z)).1
  have b0 := hb 0 (by decide)
  have b1 := hb 1 (by decide)
  have b2 := hb 2 (by decide)
  have b3 := hb 3 (by decide)
  have hcase : r = 0 ∨ r = 1 ∨ r = 2 ∨ r = 3 := by omega
  rcases hcase with rfl | rfl | rfl | rfl
  · rw [e, h0, rdS_oth (j := 1) (by decide) (by decide), rdS_oth (j := 2) (by decide) (by decide), rdS_oth (j := 3) (by decide) (by decide)]
    rcases b1 with b1 | b1 <;> rcases b2 with b2 | b2 <;> rcases b3 with b3 | b3 <;> rw [b1, b2, b3] <;> rfl
  · rw [e, h0, rdS_oth (j := 0) (by decide) (by decide), rdS_oth (j := 2) (by decide) (by decide), rdS_oth (j := 3) (by decide) (by decide)]
    rcases b0 with b0 | b0 <;> rcases b2 with b2 | b2 <;> rcases b3 with b3 | b3 <;> rw [b0, b2, b3] <;> rfl
  · rw [e, h0, rdS_oth (j := 0) (by decide) (by decide), rdS_oth (j := 1) (by decide) (by decide), rdS_oth (j := 3) (by decide) (by decide)]
    rcases b0 with b0 | b0 <;> rcases b1 with b1 | b1 <;> rcases b3 with b3 | b3 <;> rw [b0, b1, b3] <;> rfl
  · rw [e, h0, rdS_oth (j := 0) (by decide) (by decide), rdS_oth (j := 1) (by decide) (by decide), rdS_oth (j := 2) (by decide) (by decide)]
    rcases b0 with b0 | b0 <;> rcases b1 with b1 | b1 <;> rcases b2 with b2 | b2 <;> rw [b0, b1, b2] <;> rfl
theorem rdS_R {x y z : Int32} (hv : w < 3) (hi : i < 2) : gR (rdS p r x y z) i w = gR p i w := rdS_ne (by omega)
theorem act_open (h : J28 B μ p) : ∃ p' μ', f_L_acts_b45 0 x2 16 (nI k) s0 μ = some (1, μ') ∧ J28 (B + 1) μ' p' := by
  unfold f_L_acts_b45
  have ew : f_X6_whole 0 7 μ = some (osum p) := wh7 h
  rw [if_pos (by decide), if_pos (by decide), if_pos (by decide), if_neg (by decide), if_pos rfl, ew, Option.bind_some]
  rcases Lopen h with ⟨e1, e2⟩ | ⟨r, μ', hr, h0, e1, e2⟩
  · refine ⟨p, μ, ?_, h.weaken (by omega)⟩
    have e4 : osum p = 4 := by
      rw [osum_e, e2 0 (by decide), e2 1 (by decide), e2 2 (by decide), e2 3 (by decide)]
      rfl
    rw [e1, bn2_some, if_pos rfl, if_pos e4]
    rfl
  · obtain ⟨P, eP⟩ : ∃ P, P = rdS p r 1 (gR p (cur p) 0) (nowp p) := ⟨_, rfl⟩
    rw [← eP] at e2
    have hc : cur P = cur p := by rw [eP]; exact cur_cg (fun i w hi hv => rdS_R hv hi)
    have hR : ∀ w, w < 3 → gR P (cur p) w = gR p (cur p) w := fun w hv => by rw [eP]; exact rdS_R hv cur_lt
    obtain ⟨a0, a1, a2⟩ := rdS_at (p := p) (r := r) (x := 1) (y := gR p (cur p) 0) (z := nowp p)
    rw [← eP] at a0 a1 a2
    have ecd : cd P = cd p := cd_of (by unfold nowp; rw [hc, hR 1 (by decide)])
    have erd : rdp P r = cd P := by
      rw [ecd]
      unfold rdp cd
      rw [a2]
    have ew' : f_X6_whole 0 7 μ' = some (osum P) := wh7 e2
    have eo : osum P = osum p + 1 := by rw [eP]; exact osum_up hr h0 (fun j hj => (h.2.1.1.2.2 j hj).1)
    refine ⟨P, μ', ?_, e2.weaken (by omega)⟩
    have hne : ¬ nI r = -2902 := fun z => by
      have q := nI_nz (k := r) (by omega)
      rw [z] at q
      exact q (by decide)
    rw [e1, bn2_some, if_neg hne, rd0 e2 hr, Option.bind_some, if_pos a0, now_e e2, Option.bind_some, rt0 e2 cur_lt, Option.bind_some, if_pos (by rw [a1, hc, hR 0 (by decide)]), rd2 e2 hr, Option.bind_some, if_pos a0, wh5 e2, Option.bind_some, if_pos (by rw [erd]), ew', Option.bind_some, if_pos eo, changed_e e2 hr a0, Option.bind_some, if_pos (chg_0 (fun j _ => by rw [erd]))]
    rfl
theorem rdS_B {x y z : Int32} (hb : b < 32) (hv : w < 14) : gB (rdS p r x y z) b w = gB p b w := rdS_ne (by omega)
theorem need_cl (hr : r < 4) : need (rdS p r 0 0 0) (-1) = need p (nI r) := by
  have hc : cur (rdS p r 0 0 0) = cur p := cur_cg (fun i w hi hv => rdS_R hv hi)
  have e1 : lp (rmin (rdS p r 0 0 0)) 2 0 (gR (rdS p r 0 0 0) (cur (rdS p r 0 0 0)) 0) = lp (rmin p) 2 0 (gR p (cur p) 0) := by
    rw [hc, rdS_R (by decide) cur_lt]
    refine lp_cg 2 0 _ (fun j _ hj a => ?_)
    unfold rmin
    rw [rdS_R (by decide) (by omega), rdS_R (by decide) (by omega)]
  unfold need
  rw [e1]
  refine lp_cg 4 0 _ (fun j _ hj a => ?_)
  by_cases c : j = r
  · subst c
    rw [dmin_1 (w := nI j) rfl]
    refine dmin_2 (fun z => ?_)
    rw [(rdS_at (p := p) (r := j) (x := 0) (y := 0) (z := 0)).1] at z
    exact absurd z (by decide)
  · have hj1 : nI j ≠ -1 := fun z => nI_nz (k := j) (by omega) (by rw [z]; decide)
    have hj2 : nI j ≠ nI r := fun z => c (nI_inj (by omega) (by omega) z)
    unfold dmin
    rw [rdS_oth c (by decide), rdS_oth c (by decide)]
    by_cases c2 : gD p j 0 = 1 ∧ gD p j 1 < a
    · rw [if_pos ⟨hj1, c2⟩, if_pos ⟨hj2, c2⟩]
    · rw [if_neg (fun z => c2 z.2), if_neg (fun z => c2 z.2)]
theorem nfree_up (hr : r < 4) : nfree p ≤ nfree (rdS p r 0 0 0) := by
  unfold nfree
  refine ct_up 32 (fun b hb hd => ?_)
  unfold dg at hd ⊢
  obtain ⟨q1, q2⟩ := Bool.and_eq_true_iff.mp hd
  have q2' : gB p b 3 ≤ need p (-1) := of_decide_eq_true q2
  rw [rdS_B hb (by decide), rdS_B hb (by decide), need_cl hr, q1, Bool.true_and]
  exact decide_eq_true (Int32.le_trans q2' need_mono)
theorem act_close (h : J28 B μ p) : ∃ p' μ', f_L_acts_b45 0 x2 17 (nI k) s0 μ = some (1, μ') ∧ J28 (B + 1) μ' p' := by
  obtain ⟨r, hr, er⟩ := low_n (m := 4) x2 (by decide) (by decide)
  have er : f_L_low x2 4 = some (nI r) := er
  unfold f_L_acts_b45
  rw [if_pos (by decide), if_pos (by decide), if_pos (by decide), if_neg (by decide), if_neg (by decide), if_pos rfl, er, Option.bind_some, wh3 h, Option.bind_some, rd0 h hr, Option.bind_some]
  by_cases ho : gD p r 0 = 1
  · obtain ⟨μ', e1, e2⟩ := Lclose_y h hr ho
    refine ⟨_, μ', ?_, e2.weaken (by omega)⟩
    have hup := nfree_up (p := p) hr
    have h32 : nfree (rdS p r 0 0 0) ≤ 32 := ct_le 32
    have es : nI (nfree (rdS p r 0 0 0)) - nI (nfree p) = nI (nfree (rdS p r 0 0 0) - nfree p) := nI_sub hup
    have hnz : ¬ nI (nfree (rdS p r 0 0 0)) - nI (nfree p) < 0 := by
      rw [es]
      exact nI_nz (by omega)
    have hne : ¬ nI (nfree (rdS p r 0 0 0)) - nI (nfree p) = -2902 := fun z => by
      rw [z] at hnz
      exact hnz (by decide)
    rw [if_pos ho, if_neg (not_none ((h.2.1.1.2.2 r hr).2 ho))]
    unfold f_L_acts_b551
    rw [if_neg (by decide), without_e h hr ho, Option.bind_some]
    unfold f_L_acts_b568
    rw [e1, bn2_some, if_neg hne, if_neg (by decide), wh3 e2, Option.bind_some, if_pos rfl, if_neg hnz, wh4 e2, Option.bind_some, if_pos (need_cl hr)]
    rfl
  · refine ⟨p, μ, ?_, h.weaken (by omega)⟩
    rw [if_neg ho, if_pos rfl]
    unfold f_L_acts_b551 f_L_acts_b568
    rw [if_pos rfl, Lclose_n h hr ho, bn2_some, if_pos rfl, if_pos rfl]
    rfl
theorem act_undo (h : J28 B μ p) (hk : k < 100) : ∃ p' μ', f_L_acts_b45 0 x2 18 (nI k) s0 μ = some (1, μ') ∧ J28 (B + 1) μ' p' := by
  have hV : VOK 77 := ⟨by decide, by decide⟩
  unfold f_L_acts_b45
  rw [if_pos (by decide), if_pos (by decide), if_pos (by decide), if_neg (by decide), if_neg (by decide), if_neg (by decide), if_pos rfl, sight_e h, Option.bind_some, wh9 h, Option.bind_some, Ldrafted h hk, Option.bind_some]
  by_cases c : p 466 = 1 ∧ hnd p (nI k) = 0
  · obtain ⟨n, p', μ', e1, e2, j1, j2, e3, e4, e5, e6⟩ := Lput_y (val := 77) h hk hV c.1 c.2
    obtain ⟨v, μ2, u1, u2, u3⟩ := undo_e j2 h.2.1 h.2.2.1
    refine ⟨p, μ2, ?_, u3.weaken (by omega)⟩
    have hne : ¬ vby p (drd p) (nI k) = -2902 := by
      have q := dft_ne (key := nI k) h c.1
      rw [dft_1 c.1] at q
      exact q
    rw [e2, bn2_some, if_neg hne, sight_e j1, Option.bind_some, e3.1.sight h.2.1, if_pos (cmp_same _), u1, bn2_some, if_neg u2, sight_e u3, Option.bind_some, if_pos (cmp_same _), wh9 u3, Option.bind_some, if_pos rfl, Ldrafted u3 hk, Option.bind_some, if_pos rfl]
    rfl
  · refine ⟨p, μ, ?_, h.weaken (by omega)⟩
    rw [Lput_n h hk hV c, bn2_some, if_pos rfl]
    rfl
theorem act_wrong (h : J28 B μ p) : ∃ p' μ', f_L_acts_b45 0 x2 19 (nI k) s0 μ = some (1, μ') ∧ J28 (B + 1) μ' p' := by
  refine ⟨p, μ, ?_, h.weaken (by omega)⟩
  unfold f_L_acts_b45
  rw [if_pos (by decide), if_pos (by decide), if_pos (by decide), if_neg (by decide), if_neg (by decide), if_neg (by decide), if_neg (by decide), wrong_put, bn2_some, if_pos rfl, wrong_rem, bn2_some, if_pos rfl, wrong_com, bn2_some, if_pos rfl, wrong_close, bn2_some, if_pos rfl, wrong_read, Option.bind_some, if_pos rfl, wrong_since, Option.bind_some, if_pos rfl, wrong_reason, Option.bind_some, if_pos rfl]
  rfl
theorem b45_ok (h : J28 B μ p) (hB : B < 1000000) (hk : k < 100) (h20 : hw < 20) (hs0 : s0 = p 466) : ∃ p' μ', f_L_acts_b45 0 x2 (nI hw) (nI k) s0 μ = some (1, μ') ∧ J28 (B + 1) μ' p' ∧ (hw < 12 → KeepD p p') := by
  by_cases c10 : hw < 10
  · obtain ⟨p', μ', e1, e2, e3⟩ := act_put (x2 := x2) (s0 := s0) h hk c10
    exact ⟨p', μ', e1, e2, fun _ => e3⟩
  by_cases c12 : hw < 12
  · obtain ⟨p', μ', e1, e2, e3⟩ := act_rem (x2 := x2) (s0 := s0) h hk (by omega) c12
    exact ⟨p', μ', e1, e2, fun _ => e3⟩
  have hn : ∀ p' : Nat → Int32, hw < 12 → KeepD p p' := fun _ z => absurd z c12
  by_cases c15 : hw < 15
  · obtain ⟨p', μ', e1, e2⟩ := act_com (x2 := x2) (s0 := s0) h hB hk (by omega) c15
    exact ⟨p', μ', e1, e2, hn p'⟩
  have hcase : hw = 15 ∨ hw = 16 ∨ hw = 17 ∨ hw = 18 ∨ hw = 19 := by omega
  rcases hcase with rfl | rfl | rfl | rfl | rfl
  · obtain ⟨p', μ', e1, e2⟩ := act_abort (x2 := x2) (k := k) h hs0
    exact ⟨p', μ', e1, e2, hn p'⟩
  · obtain ⟨p', μ', e1, e2⟩ := act_open (x2 := x2) (k := k) (s0 := s0) h
    exact ⟨p', μ', e1, e2, hn p'⟩
  · obtain ⟨p', μ', e1, e2⟩ := act_close (x2 := x2) (k := k) (s0 := s0) h
    exact ⟨p', μ', e1, e2, hn p'⟩
  · obtain ⟨p', μ', e1, e2⟩ := act_undo (x2 := x2) (s0 := s0) h hk
    exact ⟨p', μ', e1, e2, hn p'⟩
  · obtain ⟨p', μ', e1, e2⟩ := act_wrong (x2 := x2) (k := k) (s0 := s0) h
    exact ⟨p', μ', e1, e2, hn p'⟩
theorem acts_ok (h : J28 B μ p) (hB : B < 1000000) (h20 : hw < 20) (e : f_L_low a1 20 = some (nI hw)) : ∃ p' μ', f_L_acts 0 a1 a2 μ = some (1, μ') ∧ J28 (B + 1) μ' p' ∧ (hw < 12 → KeepD p p') := by
  have fin : ∀ (M : Nat) (s : Int32), 0 < M → M ≤ 100 → s = nI M → ∃ p' μ', f_L_acts_b25 0 a2 (nI hw) s a2 μ = some (1, μ') ∧ J28 (B + 1) μ' p' ∧ (hw < 12 → KeepD p p') := fun M s hM hM2 es => by
    obtain ⟨k, hk, ek⟩ := low_n (m := M) a2 hM (by omega)
    unfold f_L_acts_b25
    rw [es, ek, Option.bind_some, wh8 h, Option.bind_some]
    rcases h.2.1.2.2.2.2.1 with c | c
    · rw [if_neg (by rw [c]; decide)]
      exact b45_ok h hB (by omega) h20 c.symm
    · rw [if_pos c]
      exact b45_ok h hB (by omega) h20 c.symm
  obtain ⟨t, ht, et⟩ := low_n (m := 4) (a1 >>> (5 &&& 31)) (by decide) (by decide)
  have et : f_L_low (a1 >>> (5 &&& 31)) 4 = some (nI t) := et
  unfold f_L_acts
  rw [e, Option.bind_some, et, Option.bind_some]
  by_cases c : nI t = 0
  · rw [if_pos c]
    exact fin 100 100 (by decide) (by decide) rfl
  · rw [if_neg c]
    exact fin 26 26 (by decide) (by decide) rfl
end PZACT
