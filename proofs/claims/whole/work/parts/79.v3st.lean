/-! PURE, the undoable calls, undo, and the command text: the steps -/
section PST1
variable {m μ μ' : Mem} {p p' P : Nat → Int32} {n k i j c x len : Nat} {B C : Int} {v : Int32} {hh hh' : Int64}
theorem DoS.weaken {FC : Mem → Option Int32} {PC : Mem → Option (Int32 × Mem)} {MD : Nat → Mem → Option (Int32 × Mem)} {R : Int32 → Int32 → Prop} {g : Nat} (h : DoS FC PC MD R g μ p B) (hc : B ≤ C) : DoS FC PC MD R g μ p C := by
  rcases h with ⟨v, p', μ', h1, h2, h3, h4, h5, h6⟩ | h
  · exact Or.inl ⟨v, p', μ', h1, h2, h3, h4, h5.weaken hc, h6⟩
  · exact Or.inr h
theorem BN_le : BN n ≤ BN (n + 1) := by
  rw [← BN_succ]
  omega
theorem refuse0 : f_X6_refuse 0 = some () := rfl
theorem rfx_1 : rfx 1 = some 1 := rfl
theorem rfx_2 : rfx 2 = some 2 := rfl
theorem rfx_3 : rfx 3 = some 3 := rfl
theorem pf_e {q k : Nat} {x : Int32} : pf μ q k x = some (mst μ q k x) := rfl
theorem st_0 (hn : n < 512) (hJ : Jinv n μ hh) (a1 a2 : Int32) : ∃ μ', St_0 a1 a2 μ μ' ∧ Jinv (n + 1) μ' hh := by
  rcases op_do (FC := f_X4_beginFault 1) (PC := f_X4_beginDraft 1) (MD := fun q m => f_X7_doBegin q m) (R := R3) (fun μ p hG hI => (do_begin hG hI).weaken BN_le) RNZ3 hJ with ⟨h1, μ3, v, μ5, μ', h2, h3, h4, h5, h6⟩ | ⟨kc, km, h1, h2, r, μ', h3, h4, h5⟩
  · refine ⟨μ', Or.inl ⟨v, μ5, ?_, h4, congrArg some h5⟩, h6⟩
    unfold f_X6_begin
    rw [Nat.zero_add, Nat.zero_add, h1, Option.bind_some, refuse0, Option.bind_some, h2, Option.bind_some, h3, bn2_some]
  · obtain ⟨rfl, rfl⟩ := h1
    refine ⟨μ', Or.inr ⟨?_, r, h3, congrArg some h4⟩, h5⟩
    unfold f_X6_begin_t
    rw [Nat.zero_add, h2, Option.bind_some, rfx_3]
theorem st_1 (hn : n < 512) (hJ : Jinv n μ hh) (a1 a2 : Int32) : ∃ μ', St_1 a1 a2 μ μ' ∧ Jinv (n + 1) μ' hh := by
  rcases op_do (FC := f_X4_putFault 1 a1 a2) (PC := f_X4_putEntry 1 a1 a2) (MD := fun q m => f_X7_doPut q a1 a2 m) (R := R23) (fun μ p hG hI => (do_put hG hI).weaken BN_le) RNZ23 hJ with ⟨h1, μ3, v, μ5, μ', h2, h3, h4, h5, h6⟩ | ⟨kc, km, h1, h2, r, μ', h3, h4, h5⟩
  · refine ⟨μ', Or.inl ⟨v, μ5, ?_, h4, congrArg some h5⟩, h6⟩
    unfold f_X6_put
    rw [Nat.zero_add, Nat.zero_add, h1, Option.bind_some, refuse0, Option.bind_some, h2, Option.bind_some, h3, bn2_some]
  · rcases h1 with ⟨rfl, rfl⟩ | ⟨rfl, rfl⟩
    · refine ⟨μ', Or.inr (Or.inl ⟨?_, r, h3, congrArg some h4⟩), h5⟩
      unfold f_X6_put_t
      rw [Nat.zero_add, h2, Option.bind_some, rfx_2]
    · refine ⟨μ', Or.inr (Or.inr ⟨?_, r, h3, congrArg some h4⟩), h5⟩
      unfold f_X6_put_t
      rw [Nat.zero_add, h2, Option.bind_some, rfx_3]
theorem st_2 (hn : n < 512) (hJ : Jinv n μ hh) (a1 a2 : Int32) : ∃ μ', St_2 a1 a2 μ μ' ∧ Jinv (n + 1) μ' hh := by
  rcases op_do (FC := f_X4_removeFault 1 a1) (PC := f_X4_removeEntry 1 a1) (MD := fun q m => f_X7_doRemove q a1 m) (R := R23) (fun μ p hG hI => (do_remove hG hI).weaken BN_le) RNZ23 hJ with ⟨h1, μ3, v, μ5, μ', h2, h3, h4, h5, h6⟩ | ⟨kc, km, h1, h2, r, μ', h3, h4, h5⟩
  · refine ⟨μ', Or.inl ⟨v, μ5, ?_, h4, congrArg some h5⟩, h6⟩
    unfold f_X6_remove
    rw [Nat.zero_add, Nat.zero_add, h1, Option.bind_some, refuse0, Option.bind_some, h2, Option.bind_some, h3, bn2_some]
  · rcases h1 with ⟨rfl, rfl⟩ | ⟨rfl, rfl⟩
    · refine ⟨μ', Or.inr (Or.inl ⟨?_, r, h3, congrArg some h4⟩), h5⟩
      unfold f_X6_remove_t
      rw [Nat.zero_add, h2, Option.bind_some, rfx_2]
    · refine ⟨μ', Or.inr (Or.inr ⟨?_, r, h3, congrArg some h4⟩), h5⟩
      unfold f_X6_remove_t
      rw [Nat.zero_add, h2, Option.bind_some, rfx_3]
theorem st_3 (hn : n < 512) (hJ : Jinv n μ hh) (a1 a2 : Int32) : ∃ μ', St_3 a1 a2 μ μ' ∧ Jinv (n + 1) μ' hh := by
  rcases op_do (FC := f_X4_commitFault 1 a1) (PC := f_X4_commitDraft 1 a1) (MD := fun q m => f_X7_doCommit q a1 m) (R := R23) (fun μ p hG hI => (do_commit hG hI (by have := BN_lt hn; omega)).weaken (by rw [← BN_succ]; omega)) RNZ23 hJ with ⟨h1, μ3, v, μ5, μ', h2, h3, h4, h5, h6⟩ | ⟨kc, km, h1, h2, r, μ', h3, h4, h5⟩
  · refine ⟨μ', Or.inl ⟨v, μ5, ?_, h4, congrArg some h5⟩, h6⟩
    unfold f_X6_commit
    rw [Nat.zero_add, Nat.zero_add, h1, Option.bind_some, refuse0, Option.bind_some, h2, Option.bind_some, h3, bn2_some]
  · rcases h1 with ⟨rfl, rfl⟩ | ⟨rfl, rfl⟩
    · refine ⟨μ', Or.inr (Or.inl ⟨?_, r, h3, congrArg some h4⟩), h5⟩
      unfold f_X6_commit_t
      rw [Nat.zero_add, h2, Option.bind_some, rfx_2]
    · refine ⟨μ', Or.inr (Or.inr ⟨?_, r, h3, congrArg some h4⟩), h5⟩
      unfold f_X6_commit_t
      rw [Nat.zero_add, h2, Option.bind_some, rfx_3]
theorem st_4 (hn : n < 512) (hJ : Jinv n μ hh) (a1 a2 : Int32) : ∃ μ', St_4 a1 a2 μ μ' ∧ Jinv (n + 1) μ' hh := by
  rcases op_do (FC := f_X4_abortFault 1) (PC := f_X4_dropDraft 1) (MD := fun q m => f_X7_doAbort q m) (R := R3) (fun μ p hG hI => (do_abort hG hI).weaken BN_le) RNZ3 hJ with ⟨h1, μ3, v, μ5, μ', h2, h3, h4, h5, h6⟩ | ⟨kc, km, h1, h2, r, μ', h3, h4, h5⟩
  · refine ⟨μ', Or.inl ⟨v, μ5, ?_, h4, congrArg some h5⟩, h6⟩
    unfold f_X6_abort
    rw [Nat.zero_add, Nat.zero_add, h1, Option.bind_some, refuse0, Option.bind_some, h2, Option.bind_some, h3, bn2_some]
  · obtain ⟨rfl, rfl⟩ := h1
    refine ⟨μ', Or.inr ⟨?_, r, h3, congrArg some h4⟩, h5⟩
    unfold f_X6_abort_t
    rw [Nat.zero_add, h2, Option.bind_some, rfx_3]
theorem st_5 (hn : n < 512) (hJ : Jinv n μ hh) (a1 a2 : Int32) : ∃ μ', St_5 a1 a2 μ μ' ∧ Jinv (n + 1) μ' hh := by
  rcases op_do (FC := f_X4_openFault 1) (PC := f_X4_openReader 1) (MD := fun q m => f_X7_doOpen q m) (R := R3) (fun μ p hG hI => (do_open hG hI).weaken BN_le) RNZ3 hJ with ⟨h1, μ3, v, μ5, μ', h2, h3, h4, h5, h6⟩ | ⟨kc, km, h1, h2, r, μ', h3, h4, h5⟩
  · refine ⟨μ', Or.inl ⟨v, μ5, ?_, h4, congrArg some h5⟩, h6⟩
    unfold f_X6_open
    rw [Nat.zero_add, Nat.zero_add, h1, Option.bind_some, refuse0, Option.bind_some, h2, Option.bind_some, h3, bn2_some]
  · obtain ⟨rfl, rfl⟩ := h1
    refine ⟨μ', Or.inr ⟨?_, r, h3, congrArg some h4⟩, h5⟩
    unfold f_X6_open_t
    rw [Nat.zero_add, h2, Option.bind_some, rfx_3]
theorem st_6 (hn : n < 512) (hJ : Jinv n μ hh) (a1 a2 : Int32) : ∃ μ', St_6 a1 a2 μ μ' ∧ Jinv (n + 1) μ' hh := by
  rcases op_do (FC := f_X4_openReaderFault 1 a1) (PC := f_X4_closeReader 1 a1) (MD := fun q m => f_X7_doClose q a1 m) (R := R13) (fun μ p hG hI => (do_close hG hI).weaken BN_le) RNZ13 hJ with ⟨h1, μ3, v, μ5, μ', h2, h3, h4, h5, h6⟩ | ⟨kc, km, h1, h2, r, μ', h3, h4, h5⟩
  · refine ⟨μ', Or.inl ⟨v, μ5, ?_, h4, congrArg some h5⟩, h6⟩
    unfold f_X6_close
    rw [Nat.zero_add, Nat.zero_add, h1, Option.bind_some, refuse0, Option.bind_some, h2, Option.bind_some, h3, bn2_some]
  · rcases h1 with ⟨rfl, rfl⟩ | ⟨rfl, rfl⟩
    · refine ⟨μ', Or.inr (Or.inl ⟨?_, r, h3, congrArg some h4⟩), h5⟩
      unfold f_X6_close_t
      rw [Nat.zero_add, h2, Option.bind_some, rfx_1]
    · refine ⟨μ', Or.inr (Or.inr ⟨?_, r, h3, congrArg some h4⟩), h5⟩
      unfold f_X6_close_t
      rw [Nat.zero_add, h2, Option.bind_some, rfx_3]
theorem Jinv.j6 (h : Jinv n μ hh) (k : Int32) : Jinv (n + 1) (mst μ 85 6 k) hh' := h.irr (fun z z1 z2 z3 z4 z5 => mst_ne z2) (by rw [mst_eq, upd_ne (by decide)]) (by rw [mst_eq, upd_ne (by decide)]) (by rw [mst_ne (by decide)])
theorem Jinv.j66 (h : Jinv n μ hh) (k k' : Int32) : Jinv (n + 1) (mst (mst μ 85 6 k') 85 6 k) hh' := h.irr (fun z z1 z2 z3 z4 z5 => by rw [mst_ne z2, mst_ne z2]) (by rw [mst_eq, upd_ne (by decide), mst_eq, upd_ne (by decide)]) (by rw [mst_eq, upd_ne (by decide), mst_eq, upd_ne (by decide)]) (by rw [mst_ne (by decide), mst_ne (by decide)])
theorem thr6 {k : Int32} : f_X7_thrown 85 (mst μ 85 6 k) = some k := by
  unfold f_X7_thrown
  rw [mst_eq, upd_eq]
theorem fails_e {q : Nat} {k : Int32} : f_X7_fails q k μ = some (0, mst μ q 6 k) := rfl
-- undo
theorem st_23 (hJ : Jinv n μ hh) (a1 a2 : Int32) : ∃ μ', St_23 a1 a2 μ μ' ∧ Jinv (n + 1) μ' hh := by
  have hJ0 := hJ
  obtain ⟨hG, hI, ⟨c, x, hH⟩, len, hT⟩ := hJ0
  obtain ⟨h1, h2, h3, h4, h5, h6⟩ := hH
  have e3 : mst μ 85 6 0 85 3 = nI c := by rw [mst_eq, upd_ne (by decide)]; exact h5
  by_cases c0 : c = 0
  · refine ⟨mst (mst μ 85 6 0) 85 6 1, Or.inr ⟨?_, 0, ?_, thr6⟩, hJ.j66 1 0⟩
    · unfold f_X6_undo_t f_X6_undo_t_b15
      rw [Nat.zero_add, h3, if_pos (show nI c ≤ 0 by rw [c0]; decide), rfx_3]
    · unfold f_X7_undo
      rw [pf_e, Option.bind_some, e3, if_pos (show nI c = 0 by rw [c0]; rfl), fails_e, bn2_some]
  · obtain ⟨y, hy⟩ : ∃ y, y = (x + 3) % 4 := ⟨_, rfl⟩
    have hy4 : y < 4 := by omega
    have es : slot c x (c - 1) = y := by
      unfold slot
      omega
    obtain ⟨g1, g2⟩ := h6 (c - 1) (by omega)
    rw [es] at g1
    obtain ⟨μ2, a1', a2', a3'⟩ := copyFrom_e (d := 1) (s := 17 + 2 + 16 * y) (Or.inl (by omega)) g1 g2.2.2.2.2.1
    have r17 : μ2 17 = μ 17 := a3' 17 (by omega)
    have hb17 : f_X5_restore_b17 17 1 (nI y) μ = some (nI (c - 1), mst (mst μ2 17 2 (nI y)) 17 1 (nI (c - 1))) := by
      unfold f_X5_restore_b17 f_X5_restore_b55
      rw [stateAt_n hy4, Option.bind_some, h3, if_neg (nI_nle (by omega) (by omega)), a1', Option.bind_some, pf_e, Option.bind_some, show mst μ2 17 2 (nI y) 17 1 = nI c by rw [mst_eq, upd_ne (by decide), r17]; exact h3, n_pred (by omega), pf_e, Option.bind_some, mst_eq, upd_eq]
    have hres : f_X5_restore 17 1 μ = some (nI (c - 1), mst (mst μ2 17 2 (nI y)) 17 1 (nI (c - 1))) := by
      unfold f_X5_restore
      rw [h4]
      by_cases x0 : x = 0
      · rw [if_pos (show nI x ≤ 0 by rw [x0]; decide), show (3 : Int32) = nI y by rw [hy, x0]; rfl]
        exact hb17
      · rw [if_neg (nI_nle (by omega) (by omega)), n_pred (by omega), show x - 1 = y by omega]
        exact hb17
    obtain ⟨M, eM⟩ : ∃ M, M = mst (mst μ2 17 2 (nI y)) 17 1 (nI (c - 1)) := ⟨_, rfl⟩
    rw [← eM] at hres
    have mo : ∀ z, 17 ≤ z → z ≠ 17 → M z = μ z := fun z z1 z2 => by
      rw [eM, mst_ne z2, mst_ne z2]
      exact a3' z (by omega)
    have m17 : M 17 1 = nI (c - 1) ∧ M 17 2 = nI y := by
      rw [eM, mst_eq, upd_eq, mst_eq, upd_ne (by decide), upd_eq]
      exact ⟨rfl, rfl⟩
    have mG : RG 1 M (sg μ (c - 1)) := a2'.fr16 (fun z z1 z2 => by rw [eM, mst_ne (by omega), mst_ne (by omega)])
    obtain ⟨N, eN⟩ : ∃ N, N = rst (mst (mst M 85 6 0) 85 3 (nI (c - 1))) (85 + 1) (fun i => if 0 ≤ i ∧ i < 0 + 470 then mst (mst M 85 6 0) 85 3 (nI (c - 1)) (85 + 3) (470 * (c - 1) + (i - 0)) else mst (mst M 85 6 0) 85 3 (nI (c - 1)) (85 + 1) i) := ⟨_, rfl⟩
    have no : ∀ z, z ≠ 85 → z ≠ 86 → N z = M z := fun z z1 z2 => by
      rw [eN, rst_ne (show z ≠ 85 + 1 from z2), mst_ne z1, mst_ne z1]
    have n85 : N 85 = upd (upd (M 85) 6 0) 3 (nI (c - 1)) := by
      rw [eN, rst_ne (by decide), mst_eq, mst_eq]
    have n86 : ∀ k, k < 470 → N 86 k = sg μ (c - 1) k := fun k hk => by
      have e : N 86 = (fun i => if 0 ≤ i ∧ i < 0 + 470 then mst (mst M 85 6 0) 85 3 (nI (c - 1)) (85 + 3) (470 * (c - 1) + (i - 0)) else mst (mst M 85 6 0) 85 3 (nI (c - 1)) (85 + 1) i) := by
        rw [eN]
        exact rst_eq (k := 86)
      rw [e]
      show (if 0 ≤ k ∧ k < 0 + 470 then mst (mst M 85 6 0) 85 3 (nI (c - 1)) (85 + 3) (470 * (c - 1) + (k - 0)) else _) = _
      rw [if_pos (show 0 ≤ k ∧ k < 0 + 470 by omega), mst_ne (by decide), mst_ne (by decide), mo (85 + 3) (by decide) (by decide)]
      rfl
    have hmod : f_X7_undo 85 M = some (nI (c - 1), N) := by
      have q3 : mst M 85 6 0 85 3 = nI c := by rw [mst_eq, upd_ne (by decide), mo 85 (by decide) (by decide)]; exact h5
      unfold f_X7_undo
      rw [pf_e, Option.bind_some, q3, if_neg (nI_ne0 (by omega) (by omega)), n_pred (by omega), pf_e, Option.bind_some, show mst (mst M 85 6 0) 85 3 (nI (c - 1)) 85 3 = nI (c - 1) by rw [mst_eq, upd_eq], nI_470, bring_n (x3 := 0) (A1 := 470 * (c - 1)) (A3 := 0) rfl rfl (by decide) (by omega) (by omega) (by decide) (by decide), Option.bind_some, ← eN, n85, upd_eq]
    refine ⟨N, Or.inl ⟨nI (c - 1), M, ?_, hmod, ?_⟩, ?_, ?_, ⟨c - 1, y, by omega, hy4, ?_, ?_, ?_, fun i hi => ?_⟩, len, hT.fr ?_ ?_ ?_ ?_⟩
    · unfold f_X6_undo f_X6_undo_b15
      rw [Nat.zero_add, h3, if_neg (nI_nle (by omega) (by omega)), refuse0, Option.bind_some, Nat.zero_add, hres, bn2_some]
    · unfold f_X7_thrown
      rw [n85, upd_ne (by decide), upd_eq]
    · exact (mG.fr16 (fun z z1 z2 => no z (by omega) (by omega))).cg470 n86
    · exact (g2.cg470 n86).weaken BN_le
    · rw [no 17 (by decide) (by decide)]
      exact m17.1
    · rw [no 17 (by decide) (by decide)]
      exact m17.2
    · rw [n85, upd_eq]
    · have e2 : slot (c - 1) y i = slot c x i := by
        unfold slot
        omega
      have e8 : sg N i = sg μ i := by
        unfold sg
        rw [no 88 (by decide) (by decide), mo 88 (by decide) (by decide)]
      have hs := slot_lt (c := c) (x := x) (i := i)
      obtain ⟨z1, z2⟩ := h6 i (by omega)
      rw [e2, e8]
      exact ⟨z1.fr16 (fun z w1 w2 => (no z (by omega) (by omega)).trans (mo z (by omega) (by omega))), z2.weaken BN_le⟩
    · rw [no 83 (by decide) (by decide), mo 83 (by decide) (by decide)]
    · rw [n85, upd_ne (by decide), upd_ne (by decide), mo 85 (by decide) (by decide)]
    · rw [no 84 (by decide) (by decide), mo 84 (by decide) (by decide)]
    · rw [no 89 (by decide) (by decide), mo 89 (by decide) (by decide)]
-- the command text
theorem Jinv.txt {len' : Nat} (h : Jinv n μ hh) (e : ∀ z, z ≠ 83 → z ≠ 84 → z ≠ 85 → z ≠ 87 → z ≠ 89 → z ≠ 90 → z ≠ 91 → μ' z = μ z) (e3 : μ' 85 3 = μ 85 3) (hT : TextR μ' len') : Jinv (n + 1) μ' hh' := by
  obtain ⟨h1, h2, ⟨c, x, h3⟩, len, h4⟩ := h
  have e86 : μ' 86 = μ 86 := e 86 (by decide) (by decide) (by decide) (by decide) (by decide) (by decide) (by decide)
  refine ⟨?_, ?_, ⟨c, x, (h3.fr (fun z z1 z2 => e z (by omega) (by omega) (by omega) (by omega) (by omega) (by omega) (by omega)) ?_ ?_ e3 ?_).mono BN_le⟩, len', hT⟩
  · rw [e86]
    exact h1.fr16 (fun z z1 z2 => e z (by omega) (by omega) (by omega) (by omega) (by omega) (by omega) (by omega))
  · rw [e86]
    exact h2.weaken BN_le
  · rw [e 17 (by decide) (by decide) (by decide) (by decide) (by decide) (by decide) (by decide)]
  · rw [e 17 (by decide) (by decide) (by decide) (by decide) (by decide) (by decide) (by decide)]
  · exact e 88 (by decide) (by decide) (by decide) (by decide) (by decide) (by decide) (by decide)
theorem st_20 (hJ : Jinv n μ hh) (a1 a2 : Int32) : ∃ μ', St_20 a1 a2 μ μ' ∧ Jinv (n + 1) μ' hh := by
  have hJ0 := hJ
  obtain ⟨hG, hI, hH, len, hT⟩ := hJ0
  obtain ⟨t1, t2, t3, t4⟩ := hT
  have e5 : mst μ 85 6 0 85 5 = nI len := by rw [mst_eq, upd_ne (by decide)]; exact t3
  rcases below_in a1 (n := 128) (N := 128) (M := 127) (by decide) (by decide) rfl rfl with ⟨k, hk, rfl, e1, e2⟩ | ⟨e1, e2⟩
  · have hF : f_X3_appendFault 83 (nI k) μ = some (if len = 150 then 3 else 0) := by
      unfold f_X3_appendFault f_X3_appendFault_b27
      rw [if_neg (nI_nz (by omega)), if_pos (show nI k ≤ 127 from gI (c := 127) 127 k rfl (by omega) (by omega)), t2]
      by_cases c1 : len = 150
      · rw [if_pos (show (150 : Int32) ≤ nI len from lI (c := 150) 150 len rfl (by omega) (by omega)), if_pos c1]
      · rw [if_neg (show ¬ (150 : Int32) ≤ nI len from nlI (c := 150) 150 len rfl (by omega) (by omega)), if_neg c1]
    by_cases c1 : len = 150
    · rw [if_pos c1] at hF
      refine ⟨mst (mst μ 85 6 0) 85 6 2, Or.inr (Or.inr ⟨?_, 0, ?_, thr6⟩), hJ.j66 2 0⟩
      · unfold f_X6_type_t
        rw [Nat.zero_add, hF, Option.bind_some, rfx_3]
      · unfold f_X7_type
        rw [pf_e, Option.bind_some, e2, Option.bind_some, if_neg (by decide), e5, if_pos (show nI len = (150 : Int32) from congrArg nI c1), fails_e, bn2_some]
    · rw [if_neg c1] at hF
      have hl : len < 150 := by omega
      obtain ⟨M, eM⟩ : ∃ M, M = mst (mst μ 84 len (nI k)) 83 1 (nI (len + 1)) := ⟨_, rfl⟩
      have mo : ∀ z, z ≠ 83 → z ≠ 84 → M z = μ z := fun z z1 z2 => by rw [eM, mst_ne z1, mst_ne z2]
      obtain ⟨N, eN⟩ : ∃ N, N = mst (mst (mst M 85 6 0) (85 + 4) len (nI k)) 85 5 (nI (len + 1)) := ⟨_, rfl⟩
      have no : ∀ z, z ≠ 85 → z ≠ 89 → N z = M z := fun z z1 z2 => by
        rw [eN, mst_ne z1, mst_ne (show z ≠ 85 + 4 from z2), mst_ne z1]
      have n85 : N 85 = upd (upd (M 85) 6 0) 5 (nI (len + 1)) := by
        rw [eN, mst_eq, mst_ne (by decide), mst_eq]
      have n89 : N 89 = upd (μ 89) len (nI k) := by
        have e : N 89 = upd (mst M 85 6 0 (85 + 4)) len (nI k) := by
          rw [eN, mst_ne (by decide)]
          exact mst_eq (q := 89)
        rw [e, mst_ne (by decide), mo (85 + 4) (by decide) (by decide)]
      refine ⟨N, Or.inl ⟨nI (len + 1), M, ?_, ?_, ?_⟩, hJ.txt (len' := len + 1) (fun z z1 z2 z3 z4 z5 z6 z7 => (no z z3 z5).trans (mo z z1 z2)) ?_ ⟨by omega, ?_, ?_, fun i hi => ?_⟩⟩
      · unfold f_X6_type f_X3_append
        rw [Nat.zero_add, hF, Option.bind_some, refuse0, Option.bind_some, t2, setCell_n hl (by decide), Option.bind_some, mst_ne (show 83 ≠ 83 + 1 by decide), t2, nI_1, pf_e, Option.bind_some, bn2_some, mst_eq, upd_eq, eM]
      · unfold f_X7_type
        have q5 : mst M 85 6 0 85 5 = nI len := by rw [mst_eq, upd_ne (by decide), mo 85 (by decide) (by decide)]; exact t3
        rw [pf_e, Option.bind_some, e2, Option.bind_some, if_neg (by decide), q5, if_neg (show ¬ nI len = (150 : Int32) from fun z => c1 (nI_inj (b := 150) (by omega) (by omega) z)), wr_n hl (by decide), Option.bind_some, mst_ne (show 85 ≠ 85 + 4 by decide), q5, nI_1, pf_e, Option.bind_some, ← eN, n85, upd_eq]
      · unfold f_X7_thrown
        rw [n85, upd_ne (by decide), upd_eq]
      · rw [n85, upd_ne (by decide), upd_ne (by decide), mo 85 (by decide) (by decide)]
      · rw [no 83 (by decide) (by decide), eM, mst_eq, upd_eq]
      · rw [n85, upd_eq]
      · rw [no 84 (by decide) (by decide), n89, eM, mst_ne (by decide), mst_eq]
        by_cases ci : i = len
        · rw [ci, upd_eq, upd_eq]
          exact ⟨k, hk, rfl, rfl⟩
        · rw [upd_ne ci, upd_ne ci]
          exact t4 i (by omega)
  · refine ⟨mst (mst μ 85 6 0) 85 6 1, Or.inr (Or.inl ⟨?_, 0, ?_, thr6⟩), hJ.j66 1 0⟩
    · have hF : f_X3_appendFault 83 a1 μ = some 2 := by
        unfold f_X3_appendFault f_X3_appendFault_b10
        unfold f_X6_isBelow at e1
        by_cases c1 : a1 < 0
        · rw [if_pos c1]
        · rw [if_neg c1] at e1 ⊢
          by_cases c2 : a1 ≤ 127
          · exfalso
            obtain ⟨k, hk, rfl⟩ := nI_of c1
            have hk2 : k ≤ 127 := (nI_leI hk (by decide)).mp (show nI k ≤ nI 127 from c2)
            rw [if_neg (show ¬ (128 : Int32) ≤ nI k from nlI (c := 128) 128 k rfl (by omega) (by decide))] at e1
            exact absurd e1 (by decide)
          · rw [if_neg c2]
      unfold f_X6_type_t
      rw [Nat.zero_add, hF, Option.bind_some, rfx_2]
    · unfold f_X7_type
      rw [pf_e, Option.bind_some, e2, Option.bind_some, if_pos rfl, fails_e, bn2_some]
theorem st_21 (hJ : Jinv n μ hh) : ∃ μ', St_21 μ μ' ∧ Jinv (n + 1) μ' hh := by
  have hJ0 := hJ
  obtain ⟨hG, hI, hH, len, t1, t2, t3, t4⟩ := hJ0
  obtain ⟨N, eN⟩ : ∃ N, N = mst (mst (mst μ 83 1 0) 85 6 0) 85 5 0 := ⟨_, rfl⟩
  have n85 : N 85 = upd (upd (μ 85) 6 0) 5 0 := by
    rw [eN, mst_eq, mst_eq, mst_ne (by decide)]
  refine ⟨N, ⟨nI len, mst μ 83 1 0, ?_, ?_⟩, hJ.txt (len' := 0) (fun z z1 z2 z3 z4 z5 z6 z7 => by rw [eN, mst_ne z3, mst_ne z3, mst_ne z1]) (by rw [n85, upd_ne (by decide), upd_ne (by decide)]) ⟨by omega, by rw [eN, mst_ne (by decide), mst_ne (by decide), mst_eq, upd_eq]; rfl, by rw [n85, upd_eq]; rfl, fun i hi => absurd hi (Nat.not_lt_zero i)⟩⟩
  · unfold f_X6_clearCommands f_X3_clear
    rw [Nat.zero_add, t2, pf_e, Option.bind_some, bn2_some]
  · unfold f_X7_clearCommands
    rw [pf_e, Option.bind_some, pf_e, Option.bind_some, show mst (mst μ 83 1 0) 85 6 0 85 5 = nI len by rw [mst_eq, upd_ne (by decide), mst_ne (by decide)]; exact t3, eN]
end PST1
