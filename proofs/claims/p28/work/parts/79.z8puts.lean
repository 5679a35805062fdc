/-! p28, PURE: the law's puts and commits -/
section PZPUT
variable {q g : Nat} {μ μ0 μ1 μ' : Mem} {p p' p'' P Q : Nat → Int32} {d d' l b n k i j r f s m a w c fu z : Nat} {key val x1 x2 x3 x4 x v m1 m2 a2 : Int32} {B C : Int}
theorem dft_1 (c1 : p 466 = 1) : dft p key = vby p (drd p) key := if_pos c1
theorem dft_ne (h : J28 B μ p) (c1 : p 466 = 1) : ¬ dft p key = -2902 := fun z => by
  rw [dft_1 c1] at z
  rcases vby_ok (key := key) h.2.2.1.2.2.2.2.1 with e | e
  · rw [e] at z
    exact absurd z (by decide)
  · rw [z] at e
    exact absurd e.1 (by decide)
theorem b104_ok (h : J28 B μ p) (hk : k < 100) : f_L_puts_b104 0 (nI k) (dft p (nI k)) (nI (nNew p)) (oI (-1000) (nxt p)) μ = some (1, μ) := by
  unfold f_L_puts_b104
  rw [wh9 h, Option.bind_some, if_pos rfl, Ldrafted h hk, Option.bind_some, if_pos rfl, next_e h, Option.bind_some, if_pos rfl]
  rfl
theorem b195_ok (h : J28 B μ p) (hk : k < 100) (c1 : p 466 = 1) (e : bofn p (nI k) = some 0) : f_L_puts_b195 0 (nI k) μ = some (1, μ) := by
  have e0 : hnd p (nI k) = 0 := by
    unfold hnd
    rw [e]
    exact if_neg (Nat.not_lt_zero _)
  unfold f_L_puts_b195
  rw [reason_e h hk c1, Option.bind_some, if_pos e0, bedsFor_e h hk c1, Option.bind_some, e, if_pos (show oI (-1000) (some 0) = 0 from rfl)]
  rfl
theorem puts_ok (h : J28 B μ p) (hk : k < 100) (hV : VOK val) : ∃ p' μ', f_L_puts 0 (nI k) val μ = some (1, μ') ∧ J28 B μ' p' ∧ KeepD p p' := by
  unfold f_L_puts
  rw [wh8 h, Option.bind_some]
  rcases h.2.1.2.2.2.2.1 with c | c
  · refine ⟨p, μ, ?_, h, KeepD.rf⟩
    rw [if_neg (by rw [c]; decide)]
    unfold f_L_puts_b15 f_L_puts_b51
    rw [Lreason h hk, Option.bind_some, Ldrafted h hk, Option.bind_some, wh9 h, Option.bind_some, if_pos rfl, next_e h, Option.bind_some, Lput_n h hk hV (fun z => by rw [z.1] at c; exact absurd c (by decide)), bn2_some, if_pos rfl, if_pos rfl]
    exact b104_ok h hk
  · rw [if_pos c]
    unfold f_L_puts_b15
    rw [Lreason h hk, Option.bind_some, if_pos c, Ldrafted h hk, Option.bind_some, wh9 h, Option.bind_some, if_neg (by decide), bedsFor_e h hk c, Option.bind_some]
    unfold f_L_puts_b51
    rw [next_e h, Option.bind_some]
    by_cases c0 : hnd p (nI k) = 0
    · obtain ⟨n, p', μ', e1, e2, j1, j2, e3, e4, e5, e6⟩ := Lput_y h hk hV c c0
      refine ⟨p', μ', ?_, j1, e3.1⟩
      have hne : ¬ vby p (drd p) (nI k) = -2902 := by
        have q := dft_ne (key := nI k) h c
        rw [dft_1 c] at q
        exact q
      have hm : n ≤ many p := by
        have c0' := c0
        unfold hnd at c0'
        rw [e1] at c0'
        rcases Nat.lt_or_ge (many p) n with z | z
        · exfalso
          have c0' : (if many p < n then (2 : Int32) else 0) = 0 := c0'
          rw [if_pos z] at c0'
          exact absurd c0' (by decide)
        · exact z
      have hm32 : many p ≤ 32 := ct_le 32
      rw [e2, bn2_some, if_neg hne, if_neg (by decide), if_pos c0, dft_1 c, if_pos rfl, drafted_e j1 hk e6, Option.bind_some, if_pos e4, wh9 j1, Option.bind_some, e1, if_pos (show nI (nNew p') = nI (nNew p) + oI (-1000) (some n) by rw [e3.2.1, ← nI_add]; rfl)]
      have e195 := b195_ok j1 hk e6 e5
      by_cases cn : n = 0
      · rw [if_pos (show oI (-1000) (some n) = 0 by rw [cn]; rfl)]
        exact e195
      · obtain ⟨f, hf⟩ := nxt_some (p := p) (by omega)
        have hf32 := nxt_lt hf
        rw [if_neg (show ¬ oI (-1000) (some n) = 0 from nI_ne0 (by omega) (by omega)), hf, show oI (-1000) (some f) = nI f from rfl, bed5 j1 hf32, Option.bind_some, if_pos (e3.2.2.2 (by omega) f hf)]
        exact e195
    · refine ⟨p, μ, ?_, h, KeepD.rf⟩
      have e104 := b104_ok h hk
      rw [Lput_n h hk hV (fun z => c0 z.2), bn2_some, if_pos rfl, if_neg (by decide)]
      cases e : bofn p (nI k) with
      | none =>
        have e1 : hnd p (nI k) = 1 := by
          unfold hnd
          rw [e]
        rw [if_pos e1, if_pos (show oI (-1000) none = -1000 from rfl)]
        exact e104
      | some n =>
        have hn : many p < n := by
          rcases Nat.lt_or_ge (many p) n with z | z
          · exact z
          · exfalso
            apply c0
            unfold hnd
            rw [e]
            exact if_neg (by omega)
        have e2 : hnd p (nI k) = 2 := by
          unfold hnd
          rw [e]
          exact if_pos hn
        have hb := bofn_le e
        rw [e2, if_neg (by decide)]
        unfold f_L_puts_b93
        rw [if_pos rfl, if_neg (show ¬ oI (-1000) (some n) ≤ 0 by rw [show oI (-1000) (some n) = nI n from rfl, ← nI_0]; exact nI_ge (by omega) (by omega))]
        exact e104
-- the counts of the states after a commit
theorem tst_dMe0 (hi : INV B p) : tst (dMe p) 0 = tst p 0 + nI (nNew p) := by
  unfold tst nNew
  rw [nI_add, ← ct_or 32 (fun j hj q => ?_)]
  · refine congrArg nI (ct_cg 32 (fun b hb => ?_))
    rw [dMe_drop b 0 hb (by decide)]
    by_cases c : gB p b 4 = 1
    · rw [if_pos c, c]
      exact (Bool.or_true _).symm
    · rw [if_neg c, if_neg (by decide), decide_eq_false c, Bool.or_false]
  · have q0 : gB p j 0 = 0 := of_decide_eq_true q
    refine decide_eq_false (fun z => ?_)
    rw [((hi.2.1 j hj).2.2.2.1 z).1] at q0
    exact absurd q0 (by decide)
theorem tst_drop (hi : INV B p) (hP : DropOf p P) : tst P 2 = tst p 2 := by
  unfold tst
  refine congrArg nI (ct_cg 32 (fun b hb => ?_))
  rw [hP b 0 hb (by decide)]
  by_cases c : gB p b 4 = 1
  · rw [if_pos c, ((hi.2.1 b hb).2.2.2.1 c).1]
    rfl
  · rw [if_neg c, if_neg (by decide)]
theorem tst_free (hi : INV B p) {w : Int32} (hP : FreeOf w p P) : tst P 2 = tst p 2 + nI (nLeft p) := by
  unfold tst nLeft
  rw [nI_add, ← ct_or 32 (fun j hj q => ?_)]
  · refine congrArg nI (ct_cg 32 (fun b hb => ?_))
    rw [hP b 0 hb (by decide), if_neg (by decide)]
    by_cases c : gB p b 5 = 1
    · rw [if_pos c, if_pos rfl, c]
      exact (Bool.or_true _).symm
    · rw [if_neg c, decide_eq_false c, Bool.or_false]
  · have q0 : gB p j 0 = 2 := of_decide_eq_true q
    refine decide_eq_false (fun z => ?_)
    rw [(hi.2.1 j hj).2.2.2.2 z] at q0
    exact absurd q0 (by decide)
end PZPUT
