/-! p28, PURE: what the law sees of the values; the history; the calls that change the garden -/
section PZOPS
variable {q g : Nat} {μ μ0 μ1 μ' : Mem} {p p' p'' P Q : Nat → Int32} {d d' l b n k i j r f s m a w c fu z : Nat} {key val x1 x2 x3 x4 x v m1 m2 : Int32} {B C : Int}
def sgr (p : Nat → Int32) (k : Nat) : Nat → Int64 → Int64 := fun r a => (31 * a) + (rdv p r (nI k)).toInt64
def sgs (p : Nat → Int32) : Nat → Int64 → Int64 := fun k a => if k < 30 then lp (sgr p k) 4 0 ((31 * a) + (vby p (cd p) (nI k)).toInt64) else (31 * a) + (vby p (cd p) (nI k)).toInt64
def sgt (p : Nat → Int32) : Int64 := lp (sgs p) 100 0 7
theorem sight_b28 (h : J28 B μ p) (hk : k < 30) {K : Int64 → Int32 → Mem → Option Int64} : ∀ (n r fu : Nat) (a : Int64), r + n = 4 → n < fu → f_L_sight_b28 0 K fu a (nI k) (nI r) μ = K (lp (sgr p k) n r a) (nI k) μ := by
  intro n
  induction n with
  | zero =>
    intro r fu a hr hf
    obtain ⟨fu, rfl⟩ : ∃ z, fu = z + 1 := ⟨fu - 1, by omega⟩
    rw [f_L_sight_b28, if_pos (lI (c := 4) 4 r rfl (by omega) (by omega))]
    rfl
  | succ n ih =>
    intro r fu a hr hf
    obtain ⟨fu, rfl⟩ : ∃ z, fu = z + 1 := ⟨fu - 1, by omega⟩
    rw [f_L_sight_b28, if_neg (nlI (c := 4) 4 r rfl (by omega) (by omega)), if_neg (nlI (c := 30) 30 k rfl hk (by omega)), Lread h (by omega) (by omega), Option.bind_some, nI_1]
    exact ih (r + 1) fu _ (by omega) (by omega)
theorem sight_b6 (h : J28 B μ p) : ∀ (n k fu : Nat) (a : Int64), k + n = 100 → n < fu → f_L_sight_b6 0 fu a (nI k) μ = some (lp (sgs p) n k a) := by
  intro n
  induction n with
  | zero =>
    intro k fu a hk hf
    obtain ⟨fu, rfl⟩ : ∃ z, fu = z + 1 := ⟨fu - 1, by omega⟩
    rw [f_L_sight_b6, if_pos (lI (c := 100) 100 k rfl (by omega) (by omega))]
    rfl
  | succ n ih =>
    intro k fu a hk hf
    obtain ⟨fu, rfl⟩ : ∃ z, fu = z + 1 := ⟨fu - 1, by omega⟩
    have e : lp (sgs p) (n + 1) k a = lp (sgs p) n (k + 1) (sgs p k a) := rfl
    rw [f_L_sight_b6, if_neg (nlI (c := 100) 100 k rfl (by omega) (by omega)), get_e h (by omega), Option.bind_some, e]
    by_cases c : k < 30
    · have e2 := sight_b28 (K := fun z3 z4 _ => f_L_sight_b61 0 (f_L_sight_b6 0 fu) z3 z4 μ) h c 4 0 5 ((31 * a) + (vby p (cd p) (nI k)).toInt64) (by omega) (by omega)
      rw [nI_0] at e2
      rw [e2, show sgs p k a = _ from if_pos c]
      unfold f_L_sight_b61
      rw [nI_1]
      exact ih (k + 1) fu _ (by omega) (by omega)
    · rw [f_L_sight_b28, if_neg (by decide), if_pos (lI (c := 30) 30 k rfl (by omega) (by omega)), show sgs p k a = _ from if_neg c]
      unfold f_L_sight_b61
      rw [nI_1]
      exact ih (k + 1) fu _ (by omega) (by omega)
theorem sight_e (h : J28 B μ p) : f_L_sight 0 μ = some (sgt p) := sight_b6 h 100 0 101 7 (by omega) (by omega)
theorem sgt_cg (h1 : ∀ k, k < 100 → vby p' (cd p') (nI k) = vby p (cd p) (nI k)) (h2 : ∀ k r, r < 4 → rdv p' r (nI k) = rdv p r (nI k)) : sgt p' = sgt p := by
  unfold sgt
  refine lp_cg 100 0 7 (fun j _ hj a => ?_)
  unfold sgs
  rw [h1 j (by omega)]
  split
  · refine lp_cg 4 0 _ (fun r _ hr a => ?_)
    unfold sgr
    rw [h2 j r (by omega)]
  · rfl
theorem KeepD.sight (h : KeepD p p') (hi : INV B p) : sgt p' = sgt p := by
  refine sgt_cg (fun k _ => h.vcd hi) (fun k r hr => ?_)
  unfold rdv
  rw [h.D hr (by decide)]
  by_cases c : gD p r 0 = 1
  · rw [if_pos c, if_pos c]
    exact h.vrd hi hr c
  · rw [if_neg c, if_neg c]
-- the history
def HistS (μ : Mem) (p : Nat → Int32) : Prop := ∃ c x, 1 ≤ c ∧ c ≤ 4 ∧ x < 4 ∧ μ 17 1 = nI c ∧ μ 17 2 = nI ((x + 1) % 4) ∧ RG (17 + 2 + 16 * x) μ p
theorem HistS.toC (h : HistS μ p) : HistC μ := by
  obtain ⟨c, x, h1, h2, h3, h4, h5, h6⟩ := h
  exact ⟨c, (x + 1) % 4, h2, Nat.mod_lt _ (by decide), h4, h5⟩
theorem HistS.fr (h : HistS μ p) (hf : GFr (0 + 1) μ μ') : HistS μ' p := by
  obtain ⟨c, x, h1, h2, h3, h4, h5, h6⟩ := h
  exact ⟨c, x, h1, h2, h3, by rw [hf 17 (by omega)]; exact h4, by rw [hf 17 (by omega)]; exact h5, h6.fr16 (fun z z1 z2 => hf z (by omega))⟩
theorem save28 (h : J28 B μ p) : ∃ μ1, f_X5_save (0 + 17) (0 + 1) μ = some μ1 ∧ RG (0 + 1) μ1 p ∧ HistS μ1 p := by
  obtain ⟨h1, h2, h3, c, x, c1, c2, c3, c4⟩ := h
  obtain ⟨μ1, a1, a2, a3, a4, a5⟩ := save_e h1 h2.2.2.2.2.1 c1 c2 c3 c4
  exact ⟨μ1, a1, h1.fr16 (fun z z1 z2 => a3 z (by omega) (by omega)), min (c + 1) 4, x, by omega, by omega, c2, a4, a5, a2⟩
theorem undo_e (hs : HistS μ p) (hi : INV B p) (hw : WX p) : ∃ v μ', f_X6_undo 0 μ = some (v, μ') ∧ ¬ v < 0 ∧ J28 B μ' p := by
  obtain ⟨c, x, h1, h2, h3, h4, h5, h6⟩ := hs
  obtain ⟨μ2, a1, a2, a3⟩ := copyFrom_e (d := 1) (s := 17 + 2 + 16 * x) (Or.inl (by omega)) h6 hi.2.2.2.2.1
  have r17 : μ2 17 = μ 17 := a3 17 (by omega)
  have e0 : f_X5_restore (0 + 17) (0 + 1) μ = some (nI (c - 1), mst (mst μ2 17 2 (nI x)) 17 1 (nI (c - 1))) := by
    have eb : f_X5_restore_b17 17 1 (nI x) μ = some (nI (c - 1), mst (mst μ2 17 2 (nI x)) 17 1 (nI (c - 1))) := by
      unfold f_X5_restore_b17 f_X5_restore_b55 pf
      rw [stateAt_n h3, Option.bind_some, h4, if_neg (show ¬ nI c ≤ 0 by rw [← nI_0]; exact nI_ge (by omega) (by omega)), a1, Option.bind_some, Option.bind_some, mst_eq, upd_ne (by decide), r17, h4, show nI c - 1 = nI (c - 1) from nI_sub (b := 1) h1, Option.bind_some, mst_eq, upd_eq]
    show f_X5_restore 17 1 μ = _
    unfold f_X5_restore
    rw [h5]
    by_cases c3 : x = 3
    · rw [c3, if_pos (by decide)]
      rw [c3] at eb
      exact eb
    · rw [show (x + 1) % 4 = x + 1 by omega, if_neg (show ¬ nI (x + 1) ≤ 0 by rw [← nI_0]; exact nI_ge (by omega) (by omega)), show nI (x + 1) - 1 = nI x from nI_sub (b := 1) (by omega)]
      exact eb
  refine ⟨nI (c - 1), mst (mst μ2 17 2 (nI x)) 17 1 (nI (c - 1)), ?_, nI_nz (by omega), (a2.fr16 (fun z z1 z2 => by rw [mst_ne (by omega), mst_ne (by omega)])), hi, hw, c - 1, x, by omega, h3, by rw [mst_eq, upd_eq], by rw [mst_eq, upd_ne (by decide), mst_eq, upd_eq]⟩
  unfold f_X6_undo f_X6_undo_b15
  rw [show μ (0 + 17) 1 = nI c from h4, if_neg (show ¬ nI c ≤ 0 by rw [← nI_0]; exact nI_ge (by omega) (by omega)), refuse00, Option.bind_some, e0, bn2_some]
/-- a change made: the new state, its history -/
theorem J28.done (hs : HistS μ1 p) (hf : GFr (0 + 1) μ1 μ') (hG : RG (0 + 1) μ' p') (hI : INV C p') (hW : WX p') : J28 C μ' p' ∧ HistS μ' p := ⟨⟨hG, hI, hW, (hs.fr hf).toC⟩, hs.fr hf⟩
theorem J28.weaken (h : J28 B μ p) (hc : B ≤ C) : J28 C μ p := ⟨h.1, h.2.1.weaken hc, h.2.2⟩
-- put
theorem putF (h : J28 B μ p) (hk : k < 100) (hV : VOK val) : f_X4_putFault (0 + 1) (nI k) val μ = some (if p 466 = 1 ∧ hnd p (nI k) = 0 then 0 else 3) := by
  unfold f_X4_putFault f_X4_putFault_b44 f_X4_putFault_b45
  rw [below_y 100 (n := 100) hk (by decide) rfl, Option.bind_some, if_neg (by decide), if_neg (Int32.not_lt.mpr hV.1), if_pos hV.2, h.m6]
  rcases h.2.1.2.2.2.2.1 with c | c
  · rw [if_pos c, if_neg (fun z => by rw [z.1] at c; exact absurd c (by decide))]
  · rw [if_neg (by rw [c]; decide), h.rg.hindrance h.2.1 c, Option.bind_some]
    show (if hnd p (nI k) = 0 then _ else _) = _
    by_cases c2 : hnd p (nI k) = 0
    · rw [if_pos c2, if_pos ⟨c, c2⟩]
    · rw [if_neg c2, if_neg (fun z => c2 z.2)]
theorem Lput_n (h : J28 B μ p) (hk : k < 100) (hV : VOK val) (hn : ¬ (p 466 = 1 ∧ hnd p (nI k) = 0)) : f_L_put 0 (nI k) val μ = some (-2902, μ) := by
  unfold f_L_put f_X6_put f_X6_put_t
  rw [putF h hk hV, if_neg hn, Option.bind_some, refuse33]
  rfl
theorem Lput_y (h : J28 B μ p) (hk : k < 100) (hV : VOK val) (h1 : p 466 = 1) (h0 : hnd p (nI k) = 0) : ∃ n p' μ', bofn p (nI k) = some n ∧ f_L_put 0 (nI k) val μ = some (vby p (drd p) (nI k), μ') ∧ J28 B μ' p' ∧ HistS μ' p ∧ FinX p p' n ∧ vby p' (drd p') (nI k) = val ∧ bofn p' (nI k) = some 0 ∧ p' 466 = 1 := by
  have h0' := h0
  unfold hnd at h0
  cases e : bofn p (nI k) with
  | none =>
    rw [e] at h0
    exact absurd (show (1 : Int32) = 0 from h0) (by decide)
  | some n =>
    rw [e] at h0
    have hm : n ≤ many p := by
      rcases Nat.lt_or_ge (many p) n with c | c
      · exfalso
        have h0 : (if many p < n then (2 : Int32) else 0) = 0 := h0
        rw [if_pos c] at h0
        exact absurd h0 (by decide)
      · exact c
    obtain ⟨μ1, s1, s2, s3⟩ := save28 h
    obtain ⟨v, p', μ', a1, a2, a3, a4, a5, a6, a7, a8, a9⟩ := put28 (val := val) s2 h.2.1 h.2.2.1 h1 e hm ⟨nI_pos' (by omega), nI_lt (b := 100) hk (by decide)⟩ hV
    obtain ⟨j1, j2⟩ := J28.done s3 a3 a2 a4 a5
    refine ⟨n, p', μ', rfl, ?_, j1, j2, a6, a8, a9, ?_⟩
    · have ex : f_X6_put 0 (nI k) val μ = some (v, μ') := by
        unfold f_X6_put
        rw [putF h hk hV, if_pos ⟨h1, h0'⟩, Option.bind_some, refuse00, Option.bind_some, s1, Option.bind_some, a1, bn2_some]
      unfold f_L_put
      rw [ex, a7]
    · rw [a6.1.1 466 (by decide) (by decide)]
      exact h1
end PZOPS
