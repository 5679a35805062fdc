/-! PURE, how many beds a put or a remove digs; values by key -/
section PBEDS
def dN (p : Nat → Int32) : Nat := if p 467 < 0 then 1 else 0
def cN (p : Nat → Int32) (l : Nat) : Nat := if gB p l 4 = 1 then 0 else 1
def bofn (p : Nat → Int32) (key : Int32) : Option Nat := match plc p (drd p) key with
  | none => some (dN p + 1)
  | some k => if ein p (nB p (drd p) (6 + k)) key = none ∧ nB p (nB p (drd p) (6 + k)) 2 = 4 then (if nB p (drd p) 2 = 6 then none else some (dN p + cN p (nB p (drd p) (6 + k)) + 1)) else some (dN p + cN p (nB p (drd p) (6 + k)))
variable {q : Nat} {μ : Mem} {g : Nat} {p : Nat → Int32} {B : Int} {key : Int32}
theorem dN_le : dN p ≤ 1 := by unfold dN; split <;> omega
theorem cN_le {l : Nat} : cN p l ≤ 1 := by unfold cN; split <;> omega
theorem bofn_0 (e : plc p (drd p) key = none) : bofn p key = some (dN p + 1) := by
  unfold bofn
  rw [e]
theorem bofn_k {k : Nat} (e : plc p (drd p) key = some k) : bofn p key = if ein p (nB p (drd p) (6 + k)) key = none ∧ nB p (nB p (drd p) (6 + k)) 2 = 4 then (if nB p (drd p) 2 = 6 then none else some (dN p + cN p (nB p (drd p) (6 + k)) + 1)) else some (dN p + cN p (nB p (drd p) (6 + k))) := by
  unfold bofn
  rw [e]
theorem bofn_le {n : Nat} (h : bofn p key = some n) : n ≤ 3 := by
  have h1 := dN_le (p := p)
  cases e : plc p (drd p) key with
  | none =>
    rw [bofn_0 e] at h
    have := Option.some.inj h
    omega
  | some k =>
    have h2 := cN_le (p := p) (l := nB p (drd p) (6 + k))
    rw [bofn_k e] at h
    split at h
    · split at h
      · cases h
      · have := Option.some.inj h
        omega
    · have := Option.some.inj h
      omega
theorem drafts_n (hi : INV B (μ (q + 1))) : f_X7_drafts q μ = some (nI (drd (μ (q + 1)))) := by
  unfold f_X7_drafts f_X7_drafts_b26
  rw [rd_c (i := 467) 467 rfl (by decide) (by decide), Option.bind_some, Option.bind_some, now_n hi.2.2.1.1, Option.bind_some]
  have h := hi.dd.1
  unfold drf at h
  by_cases c : (μ (q + 1)) 467 < 0
  · rw [if_pos c] at h
    rw [if_neg (Int32.not_le.mpr c), ← h]
    exact congrArg some hi.2.2.1.1.symm
  · rw [if_neg c] at h
    rw [if_pos (Int32.not_lt.mp c), ← h]
theorem plus0 {a b : Nat} : nI a + nI b + 0 = nI (a + b) := by rw [nI_add, Int32.add_zero]
theorem bedsOf_b16 (hi : INV B (μ (q + 1))) : f_X7_bedsOf_b16 q key (nI (dN (μ (q + 1)))) μ = some (oI (-1000) (bofn (μ (q + 1)) key)) := by
  have hd := hi.dd.2
  have h6 := hd.2.2.2.2.1
  unfold f_X7_bedsOf_b16
  rw [drafts_n hi, Option.bind_some, placeFor_n hd, Option.bind_some]
  cases e : plc (μ (q + 1)) (drd (μ (q + 1))) key with
  | none =>
    rw [if_neg (show ¬ (0 : Int32) ≤ oI (-1) none by decide), bofn_0 e, nI_1]
    rfl
  | some k =>
    have hk := plc_lt e
    obtain ⟨l1, l2⟩ := hd.2.2.2.2.2.1 k hk
    have h4 := l2.2.2.2.2.2.1
    rw [if_pos (show (0 : Int32) ≤ oI (-1) (some k) from nI_pos' (by omega)), show oI (-1) (some k) = nI k from rfl, leafAtM_n hd.1 (by omega), Option.bind_some, l1, of4 l2.1, Option.bind_some, bofn_k e]
    unfold f_X7_bedsOf_b64
    rw [placeIn_n l2, Option.bind_some, Option.bind_some, of2 l2.1, Option.bind_some, Option.bind_some, l2.2.2.2.1]
    unfold f_X7_bedsOf_b91 f_X7_bedsOf_b92 f_X7_bedsOf_b116 f_X7_bedsOf_b130 f_X7_bedsOf_b131
    rw [of2 hd.1, Option.bind_some, Option.bind_some, hd.2.2.2.1]
    simp only [i10, ↓reduceIte]
    have key2 : ∀ c : Nat, c ≤ 1 → (if (0 : Int32) ≤ oI (-1) (ein (μ (q + 1)) (nB (μ (q + 1)) (drd (μ (q + 1))) (6 + k)) key) then some (nI (dN (μ (q + 1))) + nI c + 0) else if nI (nB (μ (q + 1)) (nB (μ (q + 1)) (drd (μ (q + 1))) (6 + k)) 2) = 4 then if nI (nB (μ (q + 1)) (drd (μ (q + 1))) 2) = 6 then some (-1000) else some (nI (dN (μ (q + 1))) + nI c + 1) else some (nI (dN (μ (q + 1))) + nI c + 0)) = some (oI (-1000) (if ein (μ (q + 1)) (nB (μ (q + 1)) (drd (μ (q + 1))) (6 + k)) key = none ∧ nB (μ (q + 1)) (nB (μ (q + 1)) (drd (μ (q + 1))) (6 + k)) 2 = 4 then (if nB (μ (q + 1)) (drd (μ (q + 1))) 2 = 6 then none else some (dN (μ (q + 1)) + c + 1)) else some (dN (μ (q + 1)) + c))) := by
      intro c hc
      rw [plus0, nI_add, nI_1]
      cases e2 : ein (μ (q + 1)) (nB (μ (q + 1)) (drd (μ (q + 1))) (6 + k)) key with
      | some i =>
        have hi2 := (ein_lt e2).1
        rw [if_pos (show (0 : Int32) ≤ oI (-1) (some i) from nI_pos' (by omega)), if_neg (fun z => by cases z.1)]
        rfl
      | none =>
        rw [if_neg (show ¬ (0 : Int32) ≤ oI (-1) none by decide)]
        by_cases c4 : nB (μ (q + 1)) (nB (μ (q + 1)) (drd (μ (q + 1))) (6 + k)) 2 = 4
        · by_cases c6 : nB (μ (q + 1)) (drd (μ (q + 1))) 2 = 6
          · rw [if_pos (show nI _ = (4 : Int32) from congrArg nI c4), if_pos (show nI _ = (6 : Int32) from congrArg nI c6), if_pos ⟨rfl, c4⟩, if_pos c6]
            rfl
          · rw [if_pos (show nI _ = (4 : Int32) from congrArg nI c4), if_neg (show ¬ nI (nB (μ (q + 1)) (drd (μ (q + 1))) 2) = (6 : Int32) from fun z => c6 (nI_inj (b := 6) (by omega) (by omega) z)), if_pos ⟨rfl, c4⟩, if_neg c6]
            rfl
        · rw [if_neg (show ¬ nI (nB (μ (q + 1)) (nB (μ (q + 1)) (drd (μ (q + 1))) (6 + k)) 2) = (4 : Int32) from fun z => c4 (nI_inj (b := 4) (by omega) (by omega) z)), if_neg (fun z => c4 z.2)]
          rfl
    unfold cN
    by_cases cf : gB (μ (q + 1)) (nB (μ (q + 1)) (drd (μ (q + 1))) (6 + k)) 4 = 1
    · rw [if_pos cf, if_pos cf]
      exact key2 0 (by omega)
    · rw [if_neg cf, if_neg cf]
      exact key2 1 (by omega)
theorem bedsOf_n (hi : INV B (μ (q + 1))) : f_X7_bedsOf q key μ = some (oI (-1000) (bofn (μ (q + 1)) key)) := by
  have h := bedsOf_b16 (key := key) hi
  unfold f_X7_bedsOf
  rw [rd_c (i := 467) 467 rfl (by decide) (by decide), Option.bind_some]
  unfold dN at h
  by_cases c : (μ (q + 1)) 467 < 0
  · rw [if_pos c] at h
    rw [if_neg (Int32.not_le.mpr c)]
    exact h
  · rw [if_neg c] at h
    rw [if_pos (Int32.not_lt.mp c)]
    exact h
-- the class
theorem RG.draftBed (h : RG g μ p) (hi : INV B p) (hd : p 466 = 1) : μ g 7 = nI (drd p) := by
  rw [h.2.2.2.2.1, if_pos hd]
  exact hi.dd.1
theorem RG.fresh (h : RG g μ p) {b : Nat} (hb : b < 32) : f_X1_isFresh (g + 1) (nI b) μ = some (if gB p b 4 = 1 then 1 else 0) := by
  rw [isFresh_n hb, show μ (g + 1 + 5) b = gB p b 4 from (h.1.1 b hb).2.2.2.2.1]
theorem RG.digsDir (h : RG g μ p) (hi : INV B p) (hd : p 466 = 1) : f_X4_digsForDirectory g μ = some (nI (dN p)) := by
  unfold f_X4_digsForDirectory f_X4_digsForDirectory_b19
  rw [h.draftBed hi hd, h.fresh hi.dd.2.1, Option.bind_some, hi.fresh]
  unfold dN
  by_cases c : p 467 < 0
  · rw [if_pos c, if_pos c]
    rfl
  · rw [if_neg c, if_neg c]
    rfl
theorem RG.digsToPut (h : RG g μ p) (hi : INV B p) (hd : p 466 = 1) : f_X4_digsToPut g key μ = some (oI (-1000) (bofn p key)) := by
  have hdd := hi.dd.2
  have h6 := hdd.2.2.2.2.1
  unfold f_X4_digsToPut
  rw [h.draftBed hi hd, h.1.leafPlace hdd, Option.bind_some, h.digsDir hi hd]
  cases e : plc p (drd p) key with
  | none =>
    rw [if_pos (show oI (-1000) none = -1000 from rfl), Option.bind_some, bofn_0 e, nI_1]
    rfl
  | some k =>
    have hk := plc_lt e
    obtain ⟨l1, l2⟩ := hdd.2.2.2.2.2.1 k hk
    have h4 := l2.2.2.2.2.2.1
    rw [if_neg (show ¬ oI (-1000) (some k) = -1000 from not_none (nI_pos' (by omega))), show oI (-1000) (some k) = nI k from rfl, h.1.leaf hdd hk, Option.bind_some, Option.bind_some, h.fresh l2.1, Option.bind_some, bofn_k e]
    have key2 : ∀ c : Nat, c ≤ 1 → f_X4_digsToPut_b60 g key (nI (nB p (drd p) (6 + k))) (nI c) (nI (dN p)) μ = some (oI (-1000) (if ein p (nB p (drd p) (6 + k)) key = none ∧ nB p (nB p (drd p) (6 + k)) 2 = 4 then (if nB p (drd p) 2 = 6 then none else some (dN p + c + 1)) else some (dN p + c))) := by
      intro c hc
      have eo : f_X6_one (nI c) = some (nI c) := by
        have : c = 0 ∨ c = 1 := by omega
        rcases this with rfl | rfl <;> rfl
      unfold f_X4_digsToPut_b60 f_X4_digsToPut_b93 f_X4_digsToPut_b122
      rw [eo, Option.bind_some, h.1.entryPlace l2, Option.bind_some, h.1.size l2.1 l2.2.1, Option.bind_some, l2.2.2.2.1, h.draftBed hi hd, h.1.size hdd.1 hdd.2.1, Option.bind_some, hdd.2.2.2.1, nI_add, nI_1]
      cases e2 : ein p (nB p (drd p) (6 + k)) key with
      | some i =>
        have hi2 := (ein_lt e2).1
        rw [if_neg (show ¬ oI (-1000) (some i) = -1000 from not_none (nI_pos' (by omega))), if_neg (fun z => by cases z.1)]
        rfl
      | none =>
        rw [if_pos (show oI (-1000) none = -1000 from rfl)]
        by_cases c4 : nB p (nB p (drd p) (6 + k)) 2 = 4
        · by_cases c6 : nB p (drd p) 2 = 6
          · rw [if_pos (lI (c := 4) 4 (nB p (nB p (drd p) (6 + k)) 2) rfl (by omega) (by omega)), if_pos (lI (c := 6) 6 (nB p (drd p) 2) rfl (by omega) (by omega)), if_pos ⟨rfl, c4⟩, if_pos c6]
            rfl
          · rw [if_pos (lI (c := 4) 4 (nB p (nB p (drd p) (6 + k)) 2) rfl (by omega) (by omega)), if_neg (nlI (c := 6) 6 (nB p (drd p) 2) rfl (by omega) (by omega)), if_pos ⟨rfl, c4⟩, if_neg c6]
            rfl
        · rw [if_neg (nlI (c := 4) 4 (nB p (nB p (drd p) (6 + k)) 2) rfl (by omega) (by omega)), if_neg (fun z => c4 z.2)]
          rfl
    unfold cN
    by_cases cf : gB p (nB p (drd p) (6 + k)) 4 = 1
    · rw [if_pos cf, if_pos cf, if_neg (by decide)]
      exact key2 0 (by omega)
    · rw [if_neg cf, if_neg cf, if_pos rfl]
      exact key2 1 (by omega)
theorem RG.hindrance (h : RG g μ p) (hi : INV B p) (hd : p 466 = 1) : f_X4_hindranceToPut g key μ = some (match bofn p key with
    | none => 1
    | some n => if many p < n then 2 else 0) := by
  unfold f_X4_hindranceToPut f_X4_hindranceToPut_b28
  rw [h.digsToPut hi hd, Option.bind_some, h.bedsToDig hi, Option.bind_some]
  cases e : bofn p key with
  | none =>
    rw [if_pos (show oI (-1000) none = -1000 from rfl)]
  | some n =>
    have hn := bofn_le e
    have hm : many p ≤ 32 := ct_le 32
    rw [if_neg (show ¬ oI (-1000) (some n) = -1000 from not_none (nI_pos' (by omega))), show oI (-1000) (some n) = nI n from rfl]
    show _ = some (if many p < n then (2 : Int32) else 0)
    by_cases c : many p < n
    · rw [if_pos (nI_lt c (by omega)), if_pos c]
    · rw [if_neg (nI_nlt (by omega) (by omega)), if_neg c]
theorem RG.draftedValue (h : RG g μ p) (hi : INV B p) (hd : p 466 = 1) : f_X4_draftedValue g key μ = some (vby p (drd p) key) := by
  unfold f_X4_draftedValue
  rw [h.draftBed hi hd, h.1.valueIn hi.dd.2, Option.bind_some]
theorem RG.currentValue (h : RG g μ p) (hi : INV B p) : f_X4_currentValue g key μ = some (vby p (cd p) key) := by
  unfold f_X4_currentValue
  rw [h.curDir hi, Option.bind_some, h.1.valueIn hi.2.2.1.2.1, Option.bind_some]
theorem RG.readerValue (h : RG g μ p) (hi : INV B p) {r : Nat} (h4 : r < 4) (ho : gD p r 0 = 1) : f_X4_readerValue g (nI r) key μ = some (vby p (rdp p r) key) := by
  have hr := hi.2.2.2.1 r h4 ho
  unfold f_X4_readerValue
  rw [h.rdBed h4 ho, Option.bind_some, hr.1, h.1.valueIn hr.2.1, Option.bind_some]
end PBEDS
