/-! p28, PURE: put, with all that the law asks of it -/
section PYPUT
variable {g : Nat} {μ μ' : Mem} {p p' p'' P Q : Nat → Int32} {d d' l b n k i j r f s m : Nat} {key val : Int32} {B : Int}
theorem plc_deq (h : DEq p d p' d') : plc p' d' key = plc p d key := by
  unfold plc
  rw [h.1]
  split
  · rfl
  · refine congrArg some (lp_cg _ _ _ (fun j h1 h3 a => ?_))
    unfold pstep
    rw [(h.2 j (by omega)).2 6 (by decide) (by decide)]
theorem put28 (h : RG g μ p) (hi : INV B p) (hw : WX p) (hd : p 466 = 1) (hb : bofn p key = some n) (hm : n ≤ many p) (hK : KOK key) (hV : VOK val) : ∃ (v : Int32) (p' : Nat → Int32) (μ' : Mem), f_X4_putEntry g key val μ = some (v, μ') ∧ RG g μ' p' ∧ GFr g μ μ' ∧ INV B p' ∧ WX p' ∧ FinX p p' n ∧ v = vby p (drd p) key ∧ vby p' (drd p') key = val ∧ bofn p' key = some 0 := by
  have hdd := hi.dd.2
  have hn3 := bofn_le hb
  cases e : plc p (drd p) key with
  | none =>
    rw [bofn_0 e] at hb
    have hbn := Option.some.inj hb
    obtain ⟨p1, μ1, a1, a2, a3, a4, a5, aw, ax, a8, a9⟩ := dir28 h hi hw hd (by omega)
    have epl : plc p1 (fdp p1) key = none := (plc_cg a8 (fun i hi2 => ⟨(a9 i hi2).1, (a9 i hi2).2 6 (by decide)⟩)).trans e
    have hb1 := a2.dbed a4 a5
    have h1 := ax.1
    obtain ⟨b, μ2, μ3, μ4, b0, b1, b2, b3, b4, b5, b6, b7⟩ := a2.newLeafX (key := key) (val := val) a4 a5 (plc_none epl) (by omega)
    obtain ⟨c1, c2, c3, c4⟩ := new28 a4 aw a5 (plc_none epl) b0 hK hV rfl b7
    refine ⟨-1000, _, μ4, ?_, b5, a3.tr b6, b7, c1, by rw [← hbn]; exact ax.fin c2, (vby_0 e).symm, c3, c4⟩
    unfold f_X4_putEntry
    rw [a1, Option.bind_some, hb1, a2.1.leafPlace a5.2.2.1, epl, Option.bind_some, if_pos (show oI (-1000) none = -1000 from rfl), b1, bn2_some, b2, Option.bind_some, b3, b4, Option.bind_some]
  | some k =>
    rw [bofn_k e] at hb
    have hk := plc_lt e
    obtain ⟨l, hl⟩ : ∃ l, nB p (drd p) (6 + k) = l := ⟨_, rfl⟩
    rw [hl] at hb
    have hcn : dN p + cN p l ≤ n ∧ (ein p l key = none ∧ nB p l 2 = 4 → nB p (drd p) 2 ≠ 6 ∧ n = dN p + cN p l + 1) ∧ (¬ (ein p l key = none ∧ nB p l 2 = 4) → n = dN p + cN p l) := by
      split at hb
      · split at hb
        · cases hb
        · rename_i z1 z2
          have := Option.some.inj hb
          exact ⟨by omega, fun _ => ⟨z2, by omega⟩, fun z => absurd z1 z⟩
      · rename_i z1
        have := Option.some.inj hb
        exact ⟨by omega, fun z => absurd z z1, fun _ => by omega⟩
    obtain ⟨p1, μ1, a1, a2, a3, a4, a5, aw, ax, a8, a9⟩ := dir28 h hi hw hd (by omega)
    have epl : plc p1 (fdp p1) key = some k := (plc_cg a8 (fun i hi2 => ⟨(a9 i hi2).1, (a9 i hi2).2 6 (by decide)⟩)).trans e
    have hb1 := a2.dbed a4 a5
    have hk1 : k < nB p1 (fdp p1) 2 := by rw [a8]; exact hk
    have hl1 : nB p1 (fdp p1) (6 + k) = l := (a9 k hk).1.trans hl
    have hc1 : ∀ w, w < 14 → gB p1 l w = gB p l w := fun w hw => by
      have z := (a9 k hk).2 w hw
      rw [hl] at z
      exact z
    have ecn : cN p1 l = cN p l := by
      unfold cN
      rw [hc1 4 (by decide)]
    have hm1 := ax.1
    obtain ⟨p2, μ2, l1, b1, b2, b3, b4, b5, bw, b6, bx, b9, b10, b11, b12, bdq⟩ := own28 a2 a4 aw a5 hk1 hl1 (by omega)
    have hm2 := bx.1
    have hlp : LeafOK p l := by
      have z := (hdd.2.2.2.2.2.1 k hk).2
      rw [hl] at z
      exact z
    have l4 := hlp.2.2.2.2.2.1
    have hc2 : ∀ w, w < 14 → (w = 2 ∨ 6 ≤ w) → gB p2 l1 w = gB p l w := fun w hw hz => (b12 w hw hz).trans (hc1 w hw)
    have en2 : nB p2 l1 2 = nB p l 2 := nB_of (hc2 2 (by decide) (Or.inl rfl))
    have eei : ein p2 l1 key = ein p l key := ein_cg en2 (fun i hi2 => hc2 _ (by omega) (Or.inr (by omega)))
    have epl2 : plc p2 (fdp p2) key = some k := by
      rw [b6]
      exact (plc_deq bdq).trans epl
    rw [← b6] at b9 b10
    have hk2 : k < nB p2 (fdp p2) 2 := by rw [b9, b6]; exact hk1
    have h6 := a5.2.2.1.2.2.2.2.1
    obtain ⟨t1, t2, t3, t4, t5, t6⟩ := b5.leafs hk2
    rw [b10] at t1 t2 t3 t4 t5 t6
    have hx2 : StepX p p2 (dN p + cN p l) := by
      rw [← ecn]
      exact ax.tr bx
    have hcls : f_X4_putEntry g key val μ = (f_X1_entryPlace (g + 1) (nI l1) key μ2).bind (fun v5 => (if v5 = (-1000) then (f_X1_insertEntry (g + 1) (nI l1) key val μ2).bind (fun μ6 => (f_X1_sizeOf (g + 1) (nI l1) μ6).bind (fun v7 => (if v7 ≤ 4 then f_X4_putEntry_b174 g μ6 else bn2 (f_X4_dig g 0 μ6) (fun v8 μ9 => (f_X1_splitLeaf (g + 1) (nI l1) v8 μ9).bind (fun μ10 => (f_X1_insertLeaf (g + 1) (μ10 g 7) (nI k + 1) v8 μ10).bind (fun μ11 => f_X4_putEntry_b174 g μ11)))))) else (f_X1_valueAt (g + 1) (nI l1) v5 μ2).bind (fun v12 => (f_X1_setEntry (g + 1) (nI l1) v5 key val μ2).bind (fun μ13 => (some (v12, μ13)))))) := by
      unfold f_X4_putEntry
      rw [a1, Option.bind_some, hb1, a2.1.leafPlace a5.2.2.1, epl, Option.bind_some, if_neg (show ¬ oI (-1000) (some k) = -1000 from not_none (nI_pos' (by omega))), show oI (-1000) (some k) = nI k from rfl, b1, bn2_some]
    rw [b2.1.entryPlace t2, eei] at hcls
    cases e2 : ein p l key with
    | some i =>
      have hii := (ein_lt e2).1
      obtain ⟨μ3, c1, c2, c3, c4⟩ := b2.setVX (val := val) b4 b5 hk2 b10 b11 (eei.trans e2)
      obtain ⟨x1, x2, x3, x4⟩ := set28 (val := val) b4 bw b5 hk2 b10 b11 (eei.trans e2) hV rfl c4
      refine ⟨gB p2 l1 (7 + 2 * i), _, μ3, ?_, c2, (a3.tr b3).tr c3, c4, x1, ?_, ?_, x3, x4⟩
      · rw [hcls, e2, Option.bind_some, if_neg (show ¬ oI (-1000) (some i) = -1000 from not_none (nI_pos' (by omega))), show oI (-1000) (some i) = nI i from rfl, b2.1.val t2 (by omega), Option.bind_some, c1, Option.bind_some]
      · rw [hcn.2.2 (fun z => by rw [e2] at z; exact absurd z.1 (by simp))]
        exact hx2.fin x2
      · rw [hc2 _ (by omega) (Or.inr (by omega)), ← hl, vby_2 e (by rw [hl]; exact e2)]
    | none =>
      have ev : (-1000 : Int32) = vby p (drd p) key := (vby_1 e (by rw [hl]; exact e2)).symm
      by_cases c4 : nB p l 2 = 4
      · obtain ⟨z1, z2⟩ := hcn.2.1 ⟨e2, c4⟩
        have hd6 : nB p2 (fdp p2) 2 < 6 := by rw [b9, b6, a8]; rw [a8] at h6; omega
        obtain ⟨b, μ3, μ4, μ5, μ6, c0, c1, c2, c3, c5, c6, c7, c8, c9, c10⟩ := b2.splitLX (val := val) b4 b5 hk2 b10 b11 (en2.trans c4) (eei.trans e2) hd6 (by omega)
        obtain ⟨x1, x2, x3, x4⟩ := spl28 (val := val) b4 bw b5 b10 b11 (en2.trans c4) epl2 (eei.trans e2) hd6 c0 hK hV rfl c10
        refine ⟨-1000, _, μ6, ?_, c8, (a3.tr b3).tr c9, c10, x1, ?_, ev, x3, x4⟩
        · rw [hcls, e2, Option.bind_some, if_pos (show oI (-1000) none = -1000 from rfl), c1, Option.bind_some, c2, Option.bind_some, if_neg (show ¬ nI 5 ≤ (4 : Int32) by decide), c3, bn2_some, c5, Option.bind_some, c6, nI_1, c7, Option.bind_some]
          rfl
        · rw [z2]
          exact hx2.fin x2
      · obtain ⟨μ3, c1, c2, c3, c5, c6⟩ := b2.insEX (val := val) b4 b5 hk2 b10 b11 (by omega) (eei.trans e2)
        obtain ⟨x1, x2, x3, x4⟩ := ins28 (val := val) b4 bw b5 b10 b11 (by omega) epl2 (eei.trans e2) hK hV rfl c6
        refine ⟨-1000, _, μ3, ?_, c3, (a3.tr b3).tr c5, c6, x1, ?_, ev, x3, x4⟩
        · rw [hcls, e2, Option.bind_some, if_pos (show oI (-1000) none = -1000 from rfl), c1, Option.bind_some, c2, Option.bind_some, if_pos (gI (c := 4) 4 (nB p2 l1 2 + 1) rfl (by omega) (by omega))]
          rfl
        · rw [hcn.2.2 (fun z => c4 z.2)]
          exact hx2.fin x2
end PYPUT
