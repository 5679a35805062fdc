/-! PURE, each command on both sides: refused alike, or done alike -/
section PDO
variable {q g : Nat} {m μ μ' : Mem} {p p' P Q : Nat → Int32} {l l' b b' w' n s k d d' f pl j i r a : Nat} {key val kind x w c v : Int32} {B C : Int}
def R3 (kc km : Int32) : Prop := kc = 3 ∧ km = 1
def R23 (kc km : Int32) : Prop := (kc = 2 ∧ km = 1) ∨ (kc = 3 ∧ km = 2)
def R13 (kc km : Int32) : Prop := (kc = 1 ∧ km = 1) ∨ (kc = 3 ∧ km = 2)
/-- a command done alike on both sides, or refused alike -/
def DoS (FC : Mem → Option Int32) (PC : Mem → Option (Int32 × Mem)) (MD : Nat → Mem → Option (Int32 × Mem)) (R : Int32 → Int32 → Prop) (g : Nat) (μ : Mem) (p : Nat → Int32) (C : Int) : Prop :=
  (∃ (v : Int32) (p' : Nat → Int32) (μ' : Mem), FC μ = some 0 ∧ PC μ = some (v, μ') ∧ RG g μ' p' ∧ GFr g μ μ' ∧ INV C p' ∧ ∀ (q : Nat) (m : Mem) (f : Nat → Int32), ∃ f', MD q (rst (rst m (q + 5) f) (q + 1) p) = some (v, rst (rst m (q + 5) f') (q + 1) p')) ∨
  (∃ kc km : Int32, R kc km ∧ FC μ = some kc ∧ ∀ (q : Nat) (m : Mem), MD q (rst m (q + 1) p) = some (0, mst (rst m (q + 1) p) q 7 km))
theorem refuse_m {q : Nat} {m : Mem} {x : Int32} : f_X7_refuse q x m = some (0, mst m q 7 x) := rfl
theorem below_in (a : Int32) {n : Nat} {N M : Int32} (hn : 0 < n) (h31 : n < 2 ^ 31) (eN : N = nI n) (eM : M = nI (n - 1)) : (∃ k, k < n ∧ a = nI k ∧ f_X6_isBelow a N = some 1 ∧ f_X7_in a 0 M = some 1) ∨ (f_X6_isBelow a N = some 0 ∧ f_X7_in a 0 M = some 0) := by
  unfold f_X6_isBelow f_X7_in
  by_cases c : a < 0
  · exact Or.inr ⟨by rw [if_pos c]; rfl, by rw [if_pos c]; rfl⟩
  · obtain ⟨k, hk, rfl⟩ := nI_of c
    by_cases c2 : k < n
    · refine Or.inl ⟨k, c2, rfl, ?_, ?_⟩
      · rw [if_neg c, eN, if_neg (nI_ge c2 h31)]
        rfl
      · rw [if_neg c, eM, if_neg (nI_nlt (by omega) (by omega))]
        rfl
    · refine Or.inr ⟨?_, ?_⟩
      · rw [if_neg c, eN, if_pos (nI_le (by omega) hk)]
        rfl
      · rw [if_neg c, eM, if_pos (nI_lt (by omega) hk)]
        rfl
theorem do_put (h : RG g μ p) (hi : INV B p) : DoS (f_X4_putFault g key val) (f_X4_putEntry g key val) (fun q m => f_X7_doPut q key val m) R23 g μ p B := by
  unfold DoS
  have hr1 : ∀ (q : Nat) (m : Mem), f_X7_doPut_b23 q m = some (0, mst m q 7 1) := fun q m => rfl
  have hr2 : ∀ (q : Nat) (m : Mem), f_X7_doPut_b67 q m = some (0, mst m q 7 2) := fun q m => rfl
  unfold f_X4_putFault f_X7_doPut f_X4_putFault_b44 f_X4_putFault_b45 f_X4_putFault_b23
  rcases below_in key (n := 100) (N := 100) (M := 99) (by decide) (by decide) rfl rfl with ⟨kk, hk, -, e1, e2⟩ | ⟨e1, e2⟩
  · rw [e1, Option.bind_some, if_neg (by decide)]
    simp only [e2, Option.bind_some, i10, ↓reduceIte]
    by_cases c1 : val < -999
    · refine Or.inr ⟨2, 1, Or.inl ⟨rfl, rfl⟩, by rw [if_pos c1], fun q m => ?_⟩
      have ev : f_X7_in val (-999) 999 = some 0 := by
        unfold f_X7_in
        rw [if_pos c1]
        rfl
      rw [ev, Option.bind_some, if_pos rfl, hr1]
    · by_cases c2 : val ≤ 999
      · have ev : f_X7_in val (-999) 999 = some 1 := by
          unfold f_X7_in
          rw [if_neg c1, if_neg (Int32.not_lt.mpr c2)]
          rfl
        rw [if_neg c1, if_pos c2]
        simp only [ev, Option.bind_some, i10, ↓reduceIte]
        have e6 : μ g 6 = p 466 := h.2.2.2.1
        rw [e6]
        rcases hi.2.2.2.2.1 with cd0 | cd1
        · refine Or.inr ⟨3, 2, Or.inr ⟨rfl, rfl⟩, by rw [if_pos cd0], fun q m => ?_⟩
          rw [rst_eq, rd_c (i := 466) 466 rfl (by decide) (by decide), Option.bind_some, if_pos cd0]
          unfold f_X7_doPut_b51
          rw [if_pos rfl, hr2]
        · have hm : ∀ (q : Nat) (m : Mem), (rd 470 (rst m (q + 1) p (q + 1)) 466).bind (fun v5 => (if v5 = 0 then f_X7_doPut_b51 q key val (-1000) (rst m (q + 1) p) else (f_X7_bedsOf q key (rst m (q + 1) p)).bind (fun v6 => f_X7_doPut_b51 q key val v6 (rst m (q + 1) p)))) = f_X7_doPut_b51 q key val (oI (-1000) (bofn p key)) (rst m (q + 1) p) := fun q m => by
            rw [bedsOf_n (B := B) (by rw [rst_eq]; exact hi), rst_eq, rd_c (i := 466) 466 rfl (by decide) (by decide), Option.bind_some, if_neg (by rw [cd1]; decide), Option.bind_some]
          rw [if_neg (show ¬ p 466 = 0 by rw [cd1]; decide), h.hindrance hi cd1]
          cases eb : bofn p key with
          | none =>
            refine Or.inr ⟨3, 2, Or.inr ⟨rfl, rfl⟩, rfl, fun q m => ?_⟩
            rw [hm, eb]
            unfold f_X7_doPut_b51
            rw [if_pos (show oI (-1000) none = -1000 from rfl), hr2]
          | some n =>
            have hn3 := bofn_le eb
            have hmm : many p ≤ 32 := ct_le 32
            by_cases c3 : many p < n
            · refine Or.inr ⟨3, 2, Or.inr ⟨rfl, rfl⟩, ?_, fun q m => ?_⟩
              · show (some (if many p < n then (2 : Int32) else 0)).bind _ = _
                rw [if_pos c3]
                rfl
              · rw [hm, eb]
                unfold f_X7_doPut_b51
                rw [if_neg (show ¬ oI (-1000) (some n) = -1000 from not_none (nI_pos' (by omega))), manyToDig_n, rst_eq, Option.bind_some, show oI (-1000) (some n) = nI n from rfl, if_neg (nI_ge c3 (by omega)), hr2]
            · obtain ⟨v, p', μ', a1, a2, a3, a4, a5⟩ := h.put (val := val) hi cd1 eb (by omega)
              refine Or.inl ⟨v, p', μ', ?_, a1, a2, a3, a4, fun q m f => ?_⟩
              · show (some (if many p < n then (2 : Int32) else 0)).bind _ = _
                rw [if_neg c3]
                rfl
              · obtain ⟨f', a6⟩ := a5 q m f
                refine ⟨f', ?_⟩
                rw [hm, eb]
                exact a6
      · refine Or.inr ⟨2, 1, Or.inl ⟨rfl, rfl⟩, by rw [if_neg c1, if_neg c2], fun q m => ?_⟩
        have ev : f_X7_in val (-999) 999 = some 0 := by
          unfold f_X7_in
          rw [if_neg c1, if_pos (Int32.not_le.mp c2)]
          rfl
        rw [ev, Option.bind_some, if_pos rfl, hr1]
  · refine Or.inr ⟨2, 1, Or.inl ⟨rfl, rfl⟩, by rw [e1, Option.bind_some, if_pos rfl], fun q m => ?_⟩
    show (f_X7_in key 0 99).bind _ = _
    rw [e2, Option.bind_some, if_pos rfl, hr1]
theorem RG.digsRm (h : RG g μ p) (hi : INV B p) (hd : p 466 = 1) (e : plc p (drd p) key = some k) (hl : nB p (drd p) (6 + k) = l) : f_X4_digsToRemove g key μ = some (nI (dN p + rmN p l)) := by
  have hdd := hi.dd.2
  have hk := plc_lt e
  have hlp : LeafOK p l := by
    have z := (hdd.2.2.2.2.2.1 k hk).2
    rw [hl] at z
    exact z
  have l4 := hlp.2.2.2.2.2.1
  have l1 := hlp.2.2.2.2.1
  have hlf := h.1.leaf hdd hk
  rw [hl] at hlf
  unfold f_X4_digsToRemove f_X4_digsToRemove_b55 f_X4_digsToRemove_b56
  rw [h.draftBed hi hd, h.1.leafPlace hdd, e, Option.bind_some, show oI (-1000) (some k) = nI k from rfl, hlf, Option.bind_some, h.digsDir hi hd, Option.bind_some, h.1.size hlp.1 hlp.2.1, hlp.2.2.2.1, Option.bind_some, h.fresh hlp.1, Option.bind_some]
  unfold rmN cN
  by_cases c1 : nB p l 2 = 1
  · rw [if_pos (show nI (nB p l 2) ≤ 1 from gI (c := 1) 1 _ rfl (by omega) (by decide)), if_pos c1]
    exact congrArg some (Int32.add_zero _)
  · rw [if_neg (show ¬ nI (nB p l 2) ≤ 1 from ngI (c := 1) 1 _ rfl (by omega) (by omega)), if_neg c1]
    by_cases c4 : gB p l 4 = 1
    · rw [if_pos c4, if_pos c4, if_neg (by decide)]
      exact congrArg some (Int32.add_zero _)
    · rw [if_neg c4, if_neg c4, if_pos rfl, show f_X6_one 1 = some 1 from rfl, Option.bind_some, nI_1]
theorem do_remove (h : RG g μ p) (hi : INV B p) : DoS (f_X4_removeFault g key) (f_X4_removeEntry g key) (fun q m => f_X7_doRemove q key m) R23 g μ p B := by
  unfold DoS
  unfold f_X4_removeFault f_X7_doRemove f_X4_removeFault_b45 f_X4_removeFault_b46
  rcases below_in key (n := 100) (N := 100) (M := 99) (by decide) (by decide) rfl rfl with ⟨kk, hk, -, e1, e2⟩ | ⟨e1, e2⟩
  · rw [e1, Option.bind_some, if_neg (by decide)]
    simp only [e2, Option.bind_some, i10, ↓reduceIte]
    rw [show μ g 6 = p 466 from h.2.2.2.1]
    rcases hi.2.2.2.2.1 with cd0 | cd1
    · refine Or.inr ⟨3, 2, Or.inr ⟨rfl, rfl⟩, by rw [if_pos cd0], fun q m => ?_⟩
      rw [rst_eq, rd_c (i := 466) 466 rfl (by decide) (by decide), Option.bind_some, if_pos cd0]
      unfold f_X7_doRemove_b42
      rw [if_pos rfl]
      rfl
    · have hdd := hi.dd.2
      have hm : ∀ (q : Nat) (m : Mem), (rd 470 (rst m (q + 1) p (q + 1)) 466).bind (fun v2 => (if v2 = 0 then f_X7_doRemove_b42 q key (-1000) (rst m (q + 1) p) else (f_X7_drafts q (rst m (q + 1) p)).bind (fun v3 => (f_X7_valueBy q v3 key (rst m (q + 1) p)).bind (fun v4 => f_X7_doRemove_b42 q key v4 (rst m (q + 1) p))))) = f_X7_doRemove_b42 q key (vby p (drd p) key) (rst m (q + 1) p) := fun q m => by
        rw [drafts_n (B := B) (by rw [rst_eq]; exact hi), rst_eq, rd_c (i := 466) 466 rfl (by decide) (by decide), Option.bind_some, if_neg (by rw [cd1]; decide), Option.bind_some, valueBy_n (by rw [rst_eq]; exact hdd), rst_eq, Option.bind_some]
      rw [if_neg (show ¬ p 466 = 0 by rw [cd1]; decide), h.draftedValue hi cd1, Option.bind_some]
      by_cases c1 : vby p (drd p) key = -1000
      · refine Or.inr ⟨3, 2, Or.inr ⟨rfl, rfl⟩, by rw [if_pos c1], fun q m => ?_⟩
        rw [hm]
        unfold f_X7_doRemove_b42
        rw [if_pos c1]
        rfl
      · rw [if_neg c1]
        cases e : plc p (drd p) key with
        | none => exact absurd (vby_0 e) c1
        | some k =>
          obtain ⟨l, hl⟩ : ∃ l, nB p (drd p) (6 + k) = l := ⟨_, rfl⟩
          cases e2 : ein p l key with
          | none => exact absurd (vby_1 e (by rw [hl]; exact e2)) c1
          | some i =>
            have ev : vby p (drd p) key = gB p l (7 + 2 * i) := by
              have z := vby_2 e (i := i) (by rw [hl]; exact e2)
              rw [hl] at z
              exact z
            rw [h.digsRm hi cd1 e hl, Option.bind_some, h.bedsToDig hi, Option.bind_some]
            have hmm : many p ≤ 32 := ct_le 32
            have hrm : dN p + rmN p l ≤ 2 := by
              have z1 := dN_le (p := p)
              have z2 := cN_le (p := p) (l := l)
              unfold rmN
              split <;> omega
            by_cases c2 : many p < dN p + rmN p l
            · refine Or.inr ⟨3, 2, Or.inr ⟨rfl, rfl⟩, by rw [if_pos (nI_lt c2 (by omega))], fun q m => ?_⟩
              rw [hm]
              have hk := plc_lt e
              have h6 := hdd.2.2.2.2.1
              have hlp := hdd.2.2.2.2.2.1 k hk
              rw [hl] at hlp
              have l4 := hlp.2.2.2.2.2.2.1
              unfold f_X7_doRemove_b42
              rw [if_neg c1, show f_X7_drafts q (rst m (q + 1) p) = some (nI (drd p)) by rw [drafts_n (B := B) (by rw [rst_eq]; exact hi), rst_eq], Option.bind_some, placeFor_n (by rw [rst_eq]; exact hdd), rst_eq, e, Option.bind_some, Option.bind_some, show oI (-1) (some k) = nI k from rfl, leafAtM_n hdd.1 (by omega), rst_eq, hlp.1, Option.bind_some, of2 hlp.2.1, rst_eq, Option.bind_some, hlp.2.2.2.2.1]
              have h132 : ∀ (x5 s0 : Int32), nI (dN p) + s0 = nI (dN p + rmN p l) → f_X7_doRemove_b132 q key (vby p (drd p) key) (nI k) (nI l) x5 s0 (nI (dN p)) (rst m (q + 1) p) = some (0, mst (rst m (q + 1) p) q 7 2) := fun x5 s0 hs0 => by
                unfold f_X7_doRemove_b132
                rw [manyToDig_n, rst_eq, Option.bind_some, hs0, if_neg (nI_ge c2 (by omega))]
                rfl
              have h93 : ∀ (x5 : Int32), f_X7_doRemove_b93 q key (vby p (drd p) key) (nI k) (nI l) x5 (rst m (q + 1) p) = f_X7_doRemove_b111 q key (vby p (drd p) key) (nI k) (nI l) x5 (nI (dN p)) (rst m (q + 1) p) := fun x5 => by
                unfold f_X7_doRemove_b93
                rw [rst_eq, rd_c (i := 467) 467 rfl (by decide) (by decide), Option.bind_some]
                unfold dN
                by_cases c : p 467 < 0
                · rw [if_neg (Int32.not_le.mpr c), if_pos c]
                  rfl
                · rw [if_pos (Int32.not_lt.mp c), if_neg c]
                  rfl
              by_cases cn : nB p l 2 = 1
              · rw [if_pos (show nI (nB p l 2) = 1 from congrArg nI cn), h93]
                unfold f_X7_doRemove_b111 f_X7_doRemove_b127
                rw [if_neg (by decide), h132 1 0 (by rw [show rmN p l = 0 from if_pos cn]; exact Int32.add_zero _)]
              · rw [if_neg (show ¬ nI (nB p l 2) = 1 from fun z => cn (nI_inj (b := 1) (by omega) (by omega) z)), h93]
                unfold f_X7_doRemove_b111 f_X7_doRemove_b127
                rw [if_pos rfl, of4 hlp.2.1, rst_eq, Option.bind_some]
                have erm : rmN p l = cN p l := if_neg cn
                by_cases c4 : gB p l 4 = 1
                · rw [if_pos c4, h132 0 0 (by rw [erm, show cN p l = 0 from if_pos c4]; exact Int32.add_zero _)]
                · rw [if_neg c4, h132 0 1 (by rw [erm, show cN p l = 1 from if_neg c4, nI_1])]
            · obtain ⟨p', μ', a1, a2, a3, a4, a5⟩ := h.remove hi cd1 e hl e2 (by omega)
              refine Or.inl ⟨gB p l (7 + 2 * i), p', μ', by rw [if_neg (nI_nlt (by omega) (by omega))], a1, a2, a3, a4, fun q m f => ⟨f, ?_⟩⟩
              rw [hm, ev]
              rw [ev] at c1
              exact a5 q (rst m (q + 5) f) _ c1
  · refine Or.inr ⟨2, 1, Or.inl ⟨rfl, rfl⟩, by rw [e1, Option.bind_some, if_pos rfl], fun q m => ?_⟩
    show (f_X7_in key 0 99).bind _ = _
    rw [e2, Option.bind_some, if_pos rfl]
    rfl
-- what the class reads of its roots rests on three rows
theorem curRoot_cg (h1 : μ' (g + 11) = μ (g + 11)) (h3 : μ' (g + 13) = μ (g + 13)) : f_X4_currentRoot g μ' = f_X4_currentRoot g μ := by
  have e : ∀ (fu : Nat) (x1 x2 x3 : Int32), f_X4_currentRoot_b8 g fu x1 x2 x3 μ' = f_X4_currentRoot_b8 g fu x1 x2 x3 μ := by
    intro fu
    induction fu with
    | zero => intro x1 x2 x3; rfl
    | succ fu ih =>
      intro x1 x2 x3
      simp only [f_X4_currentRoot_b8, f_X4_currentRoot_b42, h1, h3, ih]
  exact e _ _ _ _
theorem cell_cg {q0 n0 : Nat} (h : μ' q0 = μ q0) : f_X6_cell q0 n0 x μ' = f_X6_cell q0 n0 x μ := by
  unfold f_X6_cell f_X6_cell_b16 f_X6_cell_b19
  rw [h]
theorem curDir_cg (h1 : μ' (g + 11) = μ (g + 11)) (h2 : μ' (g + 12) = μ (g + 12)) (h3 : μ' (g + 13) = μ (g + 13)) : f_X4_currentDirectory g μ' = f_X4_currentDirectory g μ := by
  unfold f_X4_currentDirectory
  rw [curRoot_cg h1 h3]
  congr 1
  funext v
  rw [cell_cg h2]
theorem curCount_cg (h1 : μ' (g + 11) = μ (g + 11)) (h3 : μ' (g + 13) = μ (g + 13)) : f_X4_currentCount g μ' = f_X4_currentCount g μ := by
  unfold f_X4_currentCount
  rw [curRoot_cg h1 h3]
  congr 1
  funext v
  rw [cell_cg h1]
theorem RG.curCountR (h : RG g μ p) (hr : RootOK p) : f_X4_currentCount g μ = some (gR p (cur p) 0) := by
  unfold f_X4_currentCount
  rw [h.currentRoot hr, Option.bind_some, cell_n cur_lt (by decide), Option.bind_some, (h.2.1 (cur p) cur_lt).1]
theorem ofCur_n : f_X7_ofRoot q (nI (cur p)) 0 (rst m (q + 1) p) = some (gR p (cur p) 0) := by
  rw [ofRoot_c (x := 0) 0 rfl cur_lt (by decide), rst_eq]
theorem do_begin (h : RG g μ p) (hi : INV B p) : DoS (f_X4_beginFault g) (f_X4_beginDraft g) (fun q m => f_X7_doBegin q m) R3 g μ p B := by
  unfold DoS
  unfold f_X4_beginFault f_X4_beginFault_b12 f_X7_doBegin
  rw [show μ g 6 = p 466 from h.2.2.2.1]
  rcases hi.2.2.2.2.1 with c0 | c1
  · have hND : NoDraft p := by
      rcases hi.2.2.2.2.2.1 with z | z
      · exact z
      · have e := z.1
        rw [c0] at e
        exact absurd e (by decide)
    have hLo : Lo p (sS (sS p 466 1) 467 (-1)) := fun i hi2 => (upd_ne (by omega)).trans (upd_ne (by omega))
    have h7 : sS (sS p 466 1) 467 (-1) 467 = -1 := upd_eq
    have h6 : sS (sS p 466 1) 467 (-1) 466 = 1 := (upd_ne (by decide)).trans upd_eq
    have hI : INV B (sS (sS p 466 1) 467 (-1)) := INV_lo hi hLo (Or.inr h6) (Or.inl ⟨h7, fun b hb => by rw [hLo.gB hb (by decide), hLo.gB hb (by decide)]; exact hND.2 b hb⟩)
    have hdr : drf (sS (sS p 466 1) 467 (-1)) = nI (cd p) := by
      unfold drf
      rw [if_pos (by rw [h7]; decide), hLo.now]
      exact hi.2.2.1.1
    refine Or.inl ⟨gR p (cur p) 0, sS (sS p 466 1) 467 (-1), mst (mst μ g 6 1) g 7 (nI (cd p)), by rw [if_pos c0], ?_, ⟨(h.1.fr (fun z z1 z2 => by rw [mst_ne (by omega), mst_ne (by omega)])).cg (fun b w hb hw => hLo.gB hb hw), fun r hr => ?_, fun r hr => ?_, ?_, ?_, ?_, ?_⟩, fun k hk => by rw [mst_ne (by omega), mst_ne (by omega)], hI, fun q m f => ⟨f, ?_⟩⟩
    · unfold f_X4_beginDraft pf
      rw [Option.bind_some, curDir_cg (μ := μ) (mst_ne (by omega)) (mst_ne (by omega)) (mst_ne (by omega)), h.curDir hi, Option.bind_some, Option.bind_some, curCount_cg (μ := μ) (by rw [mst_ne (by omega), mst_ne (by omega)]) (by rw [mst_ne (by omega), mst_ne (by omega)]), h.curCountR hi.1, Option.bind_some]
    · rw [mst_ne (by omega), mst_ne (by omega), mst_ne (by omega), mst_ne (by omega), mst_ne (by omega), mst_ne (by omega), hLo.gR hr (by decide), hLo.gR hr (by decide), hLo.gR hr (by decide)]
      exact h.2.1 r hr
    · rw [mst_ne (by omega), mst_ne (by omega), mst_ne (by omega), mst_ne (by omega), hLo.gD hr (by decide), hLo.gD hr (by decide), hLo.gD hr (by decide)]
      exact h.2.2.1 r hr
    · rw [mst_eq, upd_ne (by decide), mst_eq, upd_eq, h6]
    · rw [mst_eq, upd_eq, h6, if_pos rfl, hdr]
    · rw [mst_eq, upd_ne (by decide), mst_eq, upd_ne (by decide), show sS (sS p 466 1) 467 (-1) 468 = p 468 from (upd_ne (by decide)).trans (upd_ne (by decide))]
      exact h.2.2.2.2.2.1
    · rw [mst_eq, upd_ne (by decide), mst_eq, upd_ne (by decide), show sS (sS p 466 1) 467 (-1) 469 = p 469 from (upd_ne (by decide)).trans (upd_ne (by decide))]
      exact h.2.2.2.2.2.2
    · show (rd 470 (rst (rst m (q + 5) f) (q + 1) p (q + 1)) 466).bind _ = _
      rw [rst_eq, rd_c (i := 466) 466 rfl (by decide) (by decide), Option.bind_some, if_neg (by rw [c0]; decide), show (466 : Int32) = nI 466 from rfl, sS_r (by decide), Option.bind_some, show (467 : Int32) = nI 467 from rfl, sS_r (by decide), Option.bind_some, current_n, rst_eq, Option.bind_some, ofCur_n, Option.bind_some, hLo.cur, hLo.gR cur_lt (by decide)]
  · refine Or.inr ⟨3, 1, ⟨rfl, rfl⟩, by rw [if_neg (by rw [c1]; decide)], fun q m => ?_⟩
    show (rd 470 (rst m (q + 1) p (q + 1)) 466).bind _ = _
    rw [rst_eq, rd_c (i := 466) 466 rfl (by decide) (by decide), Option.bind_some, if_pos c1]
    rfl
/-- a class garden whose draft goes: rows other than the beds', roots' -/
theorem RG.gone (h : RG g μ p) (hb : RB (g + 1) μ' P) (hro : ∀ r, r < 2 → μ' (g + 11) r = gR P r 0 ∧ μ' (g + 12) r = (if gR P r 1 < 0 then -1000 else gR P r 1) ∧ μ' (g + 13) r = gR P r 2) (h14 : μ' (g + 14) = μ (g + 14)) (h15 : μ' (g + 15) = μ (g + 15)) (hD : ∀ r v, r < 4 → v < 3 → gD P r v = gD p r v) (e6 : μ' g 6 = 0) (e7 : μ' g 7 = -1000) (p6 : P 466 = 0) (e8 : μ' g 8 = P 468) (e9 : μ' g 9 = P 469) : RG g μ' P := by
  refine ⟨hb, hro, fun r hr => ?_, by rw [e6, p6], by rw [e7, p6, if_neg (by decide)], e8, e9⟩
  rw [h14, h15, hD r 0 hr (by decide), hD r 1 hr (by decide), hD r 2 hr (by decide)]
  exact h.2.2.1 r hr
theorem dMe_R (h : r < 2) {v : Nat} (hv : v < 3) : gR (dMe p) r v = gR p r v := by
  show dMe p (448 + 3 * r + v) = _
  rw [dMe_hi (by omega), if_neg (by omega), if_neg (by omega)]
  rfl
theorem dMe_D (h : r < 4) {v : Nat} (hv : v < 3) : gD (dMe p) r v = gD p r v := by
  show dMe p (454 + 3 * r + v) = _
  rw [dMe_hi (by omega), if_neg (by omega), if_neg (by omega)]
  rfl
theorem INV.f5 (hi : INV B p) : ∀ b, b < 32 → gB p b 4 = 1 → gB p b 5 = 0 := fun b hb hz => ((hi.2.1 b hb).2.2.2.1 hz).2
theorem INV_dMe (hi : INV B p) : INV B (dMe p) := by
  have hc : cur (dMe p) = cur p := cur_cg (fun r v hr hv => dMe_R hr hv)
  refine INV_drop0 hi dMe_drop ⟨fun r hr => ?_, ?_, fun r hr => ?_⟩ hc (fun v hv => dMe_R cur_lt hv) (fun r v hr hv => dMe_D hr hv) ?_ ?_
  · rw [dMe_R hr (by decide), dMe_R hr (by decide)]
    exact hi.1.1 r hr
  · rw [hc, dMe_R cur_lt (by decide)]
    exact hi.1.2.1
  · rw [dMe_D hr (by decide), dMe_D hr (by decide)]
    exact hi.1.2.2 r hr
  · rw [dMe_hi (by decide), if_neg (by decide), if_pos rfl]
  · rw [dMe_hi (by decide), if_pos rfl]
theorem RG.dropDraft (h : RG g μ p) (hi : INV B p) : ∃ μ', f_X4_dropDraft g μ = some (nI (nNew p), μ') ∧ RG g μ' (dMe p) ∧ GFr g μ μ' := by
  obtain ⟨μ1, a1, a2, a3⟩ := (h.1.fr (μ' := mst (mst μ g 6 0) g 7 (-1000)) (fun z z1 z2 => by rw [mst_ne (by omega), mst_ne (by omega)])).dropFresh hi.f5 (fun b hb => (hi.2.1 b hb).2.1) dMe_drop
  have fr : ∀ z, z ≠ g → (z ≤ g + 1 ∨ g + 11 ≤ z) → μ1 z = μ z := fun z z1 z2 => by rw [a3 z (by omega), mst_ne z1, mst_ne z1]
  have fg : μ1 g = mst (mst μ g 6 0) g 7 (-1000) g := a3 g (by omega)
  refine ⟨μ1, ?_, h.gone a2 (fun r hr => ?_) (fr _ (by omega) (by omega)) (fr _ (by omega) (by omega)) (fun r v hr hv => dMe_D hr hv) ?_ ?_ ?_ ?_ ?_, fun k hk => fr k (by omega) (by omega)⟩
  · unfold f_X4_dropDraft f_X4_endDraft pf
    rw [Option.bind_some, Option.bind_some, Option.bind_some, a1, bn2_some]
  · rw [fr (g + 11) (by omega) (by omega), fr (g + 12) (by omega) (by omega), fr (g + 13) (by omega) (by omega), dMe_R hr (by decide), dMe_R hr (by decide), dMe_R hr (by decide)]
    exact h.2.1 r hr
  · rw [fg, mst_eq, upd_ne (by decide), mst_eq, upd_eq]
  · rw [fg, mst_eq, upd_eq]
  · rw [dMe_hi (by decide), if_neg (by decide), if_pos rfl]
  · rw [fg, mst_eq, upd_ne (by decide), mst_eq, upd_ne (by decide), dMe_hi (by decide), if_neg (by decide), if_neg (by decide)]
    exact h.2.2.2.2.2.1
  · rw [fg, mst_eq, upd_ne (by decide), mst_eq, upd_ne (by decide), dMe_hi (by decide), if_neg (by decide), if_neg (by decide)]
    exact h.2.2.2.2.2.2
theorem do_abort (h : RG g μ p) (hi : INV B p) : DoS (f_X4_abortFault g) (f_X4_dropDraft g) (fun q m => f_X7_doAbort q m) R3 g μ p B := by
  unfold DoS
  unfold f_X4_abortFault f_X4_abortFault_b12 f_X7_doAbort f_X7_doAbort_b23
  rw [show μ g 6 = p 466 from h.2.2.2.1]
  rcases hi.2.2.2.2.1 with c0 | c1
  · refine Or.inr ⟨3, 1, ⟨rfl, rfl⟩, by rw [if_pos c0], fun q m => ?_⟩
    show (rd 470 (rst m (q + 1) p (q + 1)) 466).bind _ = _
    rw [rst_eq, rd_c (i := 466) 466 rfl (by decide) (by decide), Option.bind_some, if_pos c0]
    rfl
  · obtain ⟨μ1, a1, a2, a3⟩ := h.dropDraft hi
    refine Or.inl ⟨nI (nNew p), dMe p, μ1, by rw [if_neg (by rw [c1]; decide)], a1, a2, a3, INV_dMe hi, fun q m f => ⟨f, ?_⟩⟩
    show (rd 470 (rst (rst m (q + 5) f) (q + 1) p (q + 1)) 466).bind _ = _
    rw [rst_eq, rd_c (i := 466) 466 rfl (by decide) (by decide), Option.bind_some, if_neg (by rw [c1]; decide), drops_r, bn2_some]
-- readers
theorem RG.lowest_b2 (h : RG g μ p) (hr : RootOK p) : ∀ (n k fu : Nat), k + n = 4 → n < fu → f_X4_lowestClosedReader_b2 g fu (nI k) μ = some (oI (-1000) (sr (fun r => !decide (gD p r 0 = 1)) n k)) := by
  intro n
  induction n with
  | zero =>
    intro k fu hk hf
    obtain ⟨fu, rfl⟩ : ∃ z, fu = z + 1 := ⟨fu - 1, by omega⟩
    rw [f_X4_lowestClosedReader_b2, if_pos (lI (c := 4) 4 k rfl (by omega) (by omega))]
    rfl
  | succ n ih =>
    intro k fu hk hf
    obtain ⟨fu, rfl⟩ : ∃ z, fu = z + 1 := ⟨fu - 1, by omega⟩
    have hk2 : k < 4 := by omega
    rw [f_X4_lowestClosedReader_b2, if_neg (nlI (c := 4) 4 k rfl (by omega) (by omega)), h.isOpen hr hk2, Option.bind_some, nI_1, ih (k + 1) fu (by omega) (by omega)]
    show _ = some (oI (-1000) (if (!decide (gD p k 0 = 1)) = true then some k else sr _ n (k + 1)))
    rcases (hr.2.2 k hk2).1 with c | c
    · rw [if_pos c, if_pos (by rw [c]; rfl)]
      rfl
    · rw [if_neg (by rw [c]; decide), if_neg (by rw [c]; decide)]
theorem RG.lowest (h : RG g μ p) (hr : RootOK p) : f_X4_lowestClosedReader g μ = some (oI (-1000) (sr (fun r => !decide (gD p r 0 = 1)) 4 0)) := by
  have e := h.lowest_b2 hr 4 0 FU (by omega) (by decide)
  rw [nI_0] at e
  exact e
theorem doOpen_b2 : ∀ (n k fu : Nat), k + n = 4 → n < fu → f_X7_doOpen_b2 q fu (nI k) (rst m (q + 1) p) = f_X7_doOpen_b23 q (oI 4 (sr (fun r => !decide (gD p r 0 = 1)) n k)) (rst m (q + 1) p) := by
  intro n
  induction n with
  | zero =>
    intro k fu hk hf
    obtain ⟨fu, rfl⟩ : ∃ z, fu = z + 1 := ⟨fu - 1, by omega⟩
    have e : k = 4 := by omega
    rw [f_X7_doOpen_b2, if_pos (lI (c := 4) 4 k rfl (by omega) (by omega)), e]
    rfl
  | succ n ih =>
    intro k fu hk hf
    obtain ⟨fu, rfl⟩ : ∃ z, fu = z + 1 := ⟨fu - 1, by omega⟩
    have hk2 : k < 4 := by omega
    rw [f_X7_doOpen_b2, if_neg (nlI (c := 4) 4 k rfl (by omega) (by omega)), ofReader_c (x := 0) (r := k) 0 rfl hk2 (by decide), rst_eq, Option.bind_some, nI_1, ih (k + 1) fu (by omega) (by omega)]
    show _ = f_X7_doOpen_b23 q (oI 4 (if (!decide (gD p k 0 = 1)) = true then some k else sr _ n (k + 1))) (rst m (q + 1) p)
    by_cases c : gD p k 0 = 1
    · rw [if_pos c, if_neg (by rw [c]; decide)]
    · rw [if_neg c, if_pos (by rw [decide_eq_false c]; rfl)]
      rfl
theorem rix (v : Nat) {x : Int32} (e : x = nI v) : (454 : Int32) + 3 * nI r + x = nI (454 + 3 * r + v) := by
  rw [e, show (3 : Int32) = nI 3 from rfl, nI_mul, show (454 : Int32) = nI 454 from rfl, nI_add, nI_add]
/-- the page with a reader's three places set -/
def rdS (p : Nat → Int32) (r : Nat) (x y z : Int32) : Nat → Int32 := sS (sS (sS p (454 + 3 * r + 0) x) (454 + 3 * r + 1) y) (454 + 3 * r + 2) z
theorem rdS_at {x y z : Int32} : gD (rdS p r x y z) r 0 = x ∧ gD (rdS p r x y z) r 1 = y ∧ gD (rdS p r x y z) r 2 = z := by
  refine ⟨?_, ?_, ?_⟩
  · show upd (upd (upd p _ x) _ y) _ z (454 + 3 * r + 0) = x
    rw [upd_ne (by omega), upd_ne (by omega), upd_eq]
  · show upd (upd (upd p _ x) _ y) _ z (454 + 3 * r + 1) = y
    rw [upd_ne (by omega), upd_eq]
  · show upd (upd (upd p _ x) _ y) _ z (454 + 3 * r + 2) = z
    rw [upd_eq]
theorem rdS_ne {x y z : Int32} (h : i < 454 + 3 * r ∨ 454 + 3 * r + 3 ≤ i) : rdS p r x y z i = p i := by
  show upd (upd (upd p _ x) _ y) _ z i = p i
  rw [upd_ne (by omega), upd_ne (by omega), upd_ne (by omega)]
theorem RG.reader (h : RG g μ p) (hr4 : r < 4) {x y z : Int32} (u1 u2 : Int32) (hu1 : u1 = if x = 1 then y else -1000) (hu2 : u2 = if x = 1 then z else -1000) : RG g (mst (mst μ (g + 14) r u1) (g + 15) r u2) (rdS p r x y z) := by
  have hn : ∀ i, (i < 454 + 3 * r ∨ 454 + 3 * r + 3 ≤ i) → rdS p r x y z i = p i := fun i hi => rdS_ne hi
  have eR : ∀ r' v, r' < 2 → v < 3 → gR (rdS p r x y z) r' v = gR p r' v := fun r' v hr hv => hn _ (by omega)
  have en : drf (rdS p r x y z) = drf p := by
    unfold drf nowp
    rw [hn 467 (by omega), cur_cg eR, eR _ 1 cur_lt (by decide)]
  refine ⟨(h.1.fr (fun k k1 k2 => by rw [mst_ne (by omega), mst_ne (by omega)])).cg (fun b w hb hw => hn _ (by omega)), fun t ht => ?_, fun t ht => ?_, ?_, ?_, ?_, ?_⟩
  · rw [mst_ne (by omega), mst_ne (by omega), mst_ne (by omega), mst_ne (by omega), mst_ne (by omega), mst_ne (by omega), eR t 0 ht (by decide), eR t 1 ht (by decide), eR t 2 ht (by decide)]
    exact h.2.1 t ht
  · rw [mst_ne (show g + 14 ≠ g + 15 by omega), mst_eq, mst_eq, mst_ne (show g + 15 ≠ g + 14 by omega)]
    by_cases c : t = r
    · rw [c, upd_eq, upd_eq, rdS_at.1, rdS_at.2.1, rdS_at.2.2]
      exact ⟨hu1, hu2⟩
    · have eD : ∀ v, v < 3 → gD (rdS p r x y z) t v = gD p t v := fun v hv => hn _ (by omega)
      rw [upd_ne c, upd_ne c, eD 0 (by decide), eD 1 (by decide), eD 2 (by decide)]
      exact h.2.2.1 t ht
  · rw [mst_ne (by omega), mst_ne (by omega), hn 466 (by omega)]
    exact h.2.2.2.1
  · rw [mst_ne (by omega), mst_ne (by omega), hn 466 (by omega), en]
    exact h.2.2.2.2.1
  · rw [mst_ne (by omega), mst_ne (by omega), hn 468 (by omega)]
    exact h.2.2.2.2.2.1
  · rw [mst_ne (by omega), mst_ne (by omega), hn 469 (by omega)]
    exact h.2.2.2.2.2.2
theorem do_open (h : RG g μ p) (hi : INV B p) : DoS (f_X4_openFault g) (f_X4_openReader g) (fun q m => f_X7_doOpen q m) R3 g μ p B := by
  unfold DoS
  unfold f_X4_openFault f_X4_openFault_b15 f_X7_doOpen
  have hm := fun (q : Nat) (m : Mem) => doOpen_b2 (q := q) (m := m) (p := p) 4 0 FU (by omega) (by decide)
  rw [h.lowest hi.1, Option.bind_some]
  cases e : sr (fun r => !decide (gD p r 0 = 1)) 4 0 with
  | none =>
    refine Or.inr ⟨3, 1, ⟨rfl, rfl⟩, rfl, fun q m => ?_⟩
    have hq := hm q m
    rw [nI_0, e] at hq
    refine hq.trans ?_
    unfold f_X7_doOpen_b23
    rw [if_pos (show oI 4 none = 4 from rfl)]
    rfl
  | some r =>
    have hr4 : r < 4 := by
      have z := (sr_some _ _ _ e).2.1
      omega
    have hI : INV B (rdS p r 1 (gR p (cur p) 0) (nowp p)) := INV_reader hi hr4 (fun i h => rdS_ne h) (Or.inr rdS_at)
    refine Or.inl ⟨nI r, rdS p r 1 (gR p (cur p) 0) (nowp p), mst (mst μ (g + 14) r (gR p (cur p) 0)) (g + 15) r (nowp p), ?_, ?_, h.reader hr4 _ _ (if_pos rfl).symm (if_pos rfl).symm, fun k hk => by rw [mst_ne (by omega), mst_ne (by omega)], hI, fun q m f => ⟨f, ?_⟩⟩
    · rw [if_neg (show ¬ oI (-1000) (some r) = -1000 from not_none (nI_pos' (by omega)))]
    · unfold f_X4_openReader
      rw [h.lowest hi.1, e, Option.bind_some, show oI (-1000) (some r) = nI r from rfl, h.curCountR hi.1, Option.bind_some, setCell_n hr4 (by decide), Option.bind_some, curDir_cg (μ := μ) (mst_ne (by omega)) (mst_ne (by omega)) (mst_ne (by omega)), h.curDir hi, Option.bind_some, setCell_n hr4 (by decide), Option.bind_some, ← hi.2.2.1.1]
    · have hq := hm q (rst m (q + 5) f)
      rw [nI_0, e] at hq
      refine hq.trans ?_
      have lo : ∀ (P : Nat → Int32), (∀ i, i < 454 → P i = p i) → cur P = cur p ∧ gR P (cur p) 0 = gR p (cur p) 0 ∧ nowp P = nowp p := fun P hP => by
        have eR : ∀ r' v, r' < 2 → v < 3 → gR P r' v = gR p r' v := fun r' v hr hv => hP _ (by omega)
        refine ⟨cur_cg eR, eR _ _ cur_lt (by decide), ?_⟩
        unfold nowp
        rw [cur_cg eR, eR _ 1 cur_lt (by decide)]
      have l1 := lo (sS p (454 + 3 * r + 0) 1) (fun i h => upd_ne (by omega))
      have l2 := lo (sS (sS p (454 + 3 * r + 0) 1) (454 + 3 * r + 1) (gR p (cur p) 0)) (fun i h => (upd_ne (by omega)).trans (upd_ne (by omega)))
      unfold f_X7_doOpen_b23
      rw [show oI 4 (some r) = nI r from rfl, if_neg (show ¬ nI r = (4 : Int32) from fun z => absurd (nI_inj (b := 4) (by omega) (by omega) z) (by omega)), rix (x := 0) 0 rfl, rix (x := 1) 1 rfl, rix (x := 2) 2 rfl, sS_r (by omega), Option.bind_some, current_n, rst_eq, Option.bind_some, l1.1, ofRoot_c (x := 0) 0 rfl cur_lt (by decide), rst_eq, Option.bind_some, l1.2.1, sS_r (by omega), Option.bind_some, now_n (d := cd p) (by rw [rst_eq, l2.2.2]; exact hi.2.2.1.1), Option.bind_some, sS_r (by omega), Option.bind_some, ← hi.2.2.1.1]
      rfl
theorem do_close (h : RG g μ p) (hi : INV B p) : DoS (f_X4_openReaderFault g x) (f_X4_closeReader g x) (fun q m => f_X7_doClose q x m) R13 g μ p B := by
  unfold DoS
  unfold f_X4_openReaderFault f_X4_openReaderFault_b23 f_X7_doClose
  rcases below_in x (n := 4) (N := 4) (M := 3) (by decide) (by decide) rfl rfl with ⟨r, hr4, rfl, e1, e2⟩ | ⟨e1, e2⟩
  · rw [e1, Option.bind_some, if_neg (by decide), h.isOpen hi.1 hr4, Option.bind_some]
    simp only [e2, Option.bind_some, i10, ↓reduceIte]
    rcases (hi.1.2.2 r hr4).1 with c | c
    · refine Or.inr ⟨3, 2, Or.inr ⟨rfl, rfl⟩, by rw [if_pos c], fun q m => ?_⟩
      rw [ofReader_c (x := 0) (r := r) 0 rfl hr4 (by decide), rst_eq, Option.bind_some, if_pos c]
      rfl
    · have hI : INV B (rdS p r 0 0 0) := INV_reader hi hr4 (fun i h => rdS_ne h) (Or.inl rdS_at.1)
      have hG := h.reader hr4 (x := 0) (y := 0) (z := 0) (-1000) (-1000) (if_neg (by decide)).symm (if_neg (by decide)).symm
      refine Or.inl ⟨nI (nfree (rdS p r 0 0 0)) - nI (nfree p), rdS p r 0 0 0, _, by rw [if_neg (by rw [c]; decide)], ?_, hG, fun k hk => by rw [mst_ne (by omega), mst_ne (by omega)], hI, fun q m f => ⟨f, ?_⟩⟩
      · unfold f_X4_closeReader
        rw [h.needed hi.1, Option.bind_some, h.countFreed, Option.bind_some, setCell_n hr4 (by decide), Option.bind_some, setCell_n hr4 (by decide), Option.bind_some, hG.needed hI.1, Option.bind_some, hG.countFreed, Option.bind_some]
      · rw [ofReader_c (x := 0) (r := r) 0 rfl hr4 (by decide), rst_eq, Option.bind_some, if_neg (by rw [c]; decide), freedToDig_n, rst_eq, Option.bind_some, show FU = 4092 + 1 + 1 + 1 + 1 from rfl, f_X7_doClose_b37, if_neg (by decide), rix (x := 0) 0 rfl, sS_r (by omega), Option.bind_some, show (0 : Int32) + 1 = 1 from rfl, f_X7_doClose_b37, if_neg (by decide), rix (x := 1) 1 rfl, sS_r (by omega), Option.bind_some, show (1 : Int32) + 1 = 2 from rfl, f_X7_doClose_b37, if_neg (by decide), rix (x := 2) 2 rfl, sS_r (by omega), Option.bind_some, show (2 : Int32) + 1 = 3 from rfl, f_X7_doClose_b37, if_pos (by decide), freedToDig_n, rst_eq, Option.bind_some]
        rfl
  · refine Or.inr ⟨1, 1, Or.inl ⟨rfl, rfl⟩, by rw [e1, Option.bind_some, if_pos rfl], fun q m => ?_⟩
    show (f_X7_in x 0 3).bind _ = _
    rw [e2, Option.bind_some, if_pos rfl]
    rfl
end PDO
