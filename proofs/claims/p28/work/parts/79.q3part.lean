/-! PURE, parts of roots, readers, beds and of the whole: told alike -/
section PPART
def troot (p : Nat → Int32) (r w : Nat) : Int32 := if w = 0 then gR p r 0 else if w = 1 then (if gR p r 1 < 0 then -1000 else gR p r 1) else if w = 2 then gR p r 2 else if r = cur p then 1 else 0
def trd (p : Nat → Int32) (r w : Nat) : Int32 := if gD p r 0 = 1 then (if w = 0 then gD p r 1 else if w = 1 then gD p r 2 else nI (ens p (rdp p r))) else -1000
def tbed (p : Nat → Int32) (b w : Nat) : Int32 := if w = 0 then gB p b 0 else if w = 1 then (if gB p b 0 = 0 then -1000 else gB p b 1) else if w = 2 then (if gB p b 0 = 0 then -1000 else gB p b 2) else if w = 3 then (if gB p b 0 = 2 then gB p b 3 else -1000) else if w = 4 then (if dg p b then 1 else 0) else gB p b 4
def tst (p : Nat → Int32) (v : Int32) : Int32 := nI (ct (fun b => decide (gB p b 0 = v)) 32)
def twh (p : Nat → Int32) (len : Int32) (w : Nat) : Int32 := if w = 0 then tst p 0 else if w = 1 then tst p 1 else if w = 2 then tst p 2 else if w = 3 then nI (nfree p) else if w = 4 then need p (-1) else if w = 5 then nI (ens p (cd p)) else if w = 6 then gB p (cd p) 2 else if w = 7 then lp (fun j (x : Int32) => x + gD p j 0) 4 0 0 else if w = 8 then p 466 else if w = 9 then nI (ct (fun b => decide (gB p b 4 = 1)) 32) else if w = 10 then nI (ct (fun b => decide (gB p b 5 = 1)) 32) else if w = 11 then p 468 else if w = 12 then p 469 else if w = 13 then dsum p (cd p) (nB p (cd p) 2) 0 else len
variable {q : Nat} {μ : Mem} {g : Nat} {p : Nat → Int32} {B : Int} {r w b : Nat}
theorem RG.rootPart (h : RG g μ p) (hr : RootOK p) (h2 : r < 2) (hw : w < 4) : f_X4_rootPart g (nI r) (nI w) μ = some (troot p r w) := by
  unfold f_X4_rootPart f_X4_rootPart_b72
  rcases (show w = 0 ∨ w = 1 ∨ w = 2 ∨ w = 3 by omega) with rfl | rfl | rfl | rfl
  · rw [if_pos (show nI 0 = (0 : Int32) from rfl), cell_n h2 (by decide), Option.bind_some, (h.2.1 r h2).1]
    rfl
  · rw [if_neg (show ¬ nI 1 = (0 : Int32) by decide), if_pos (show nI 1 = (1 : Int32) from rfl), cell_n h2 (by decide), Option.bind_some, (h.2.1 r h2).2.1]
    rfl
  · rw [if_neg (show ¬ nI 2 = (0 : Int32) by decide), if_neg (show ¬ nI 2 = (1 : Int32) by decide), if_pos (show nI 2 = (2 : Int32) from rfl), cell_n h2 (by decide), Option.bind_some, (h.2.1 r h2).2.2]
    rfl
  · rw [if_neg (show ¬ nI 3 = (0 : Int32) by decide), if_neg (show ¬ nI 3 = (1 : Int32) by decide), if_neg (show ¬ nI 3 = (2 : Int32) by decide), if_pos (show nI 3 = (3 : Int32) from rfl), h.currentRoot hr, Option.bind_some]
    have hc := cur_lt (p := p)
    show _ = some (if r = cur p then 1 else 0)
    by_cases c : r = cur p
    · rw [if_pos c, if_pos (congrArg nI c)]
      rfl
    · rw [if_neg c, if_neg (fun e => c (nI_inj (by omega) (by omega) e))]
      rfl
theorem tellRoot_n (h2 : r < 2) (hw : w < 4) : f_X7_tellRoot q (nI r) (nI w) μ = some (troot (μ (q + 1)) r w) := by
  unfold f_X7_tellRoot f_X7_tellRoot_b27 f_X7_tellRoot_b43 f_X7_tellRoot_b44
  rcases (show w = 0 ∨ w = 1 ∨ w = 2 ∨ w = 3 by omega) with rfl | rfl | rfl | rfl
  · rw [if_neg (show ¬ nI 0 = (3 : Int32) by decide), ofRoot_c (x := nI 0) (r := r) 0 rfl h2 (by decide), Option.bind_some, if_neg (show ¬ nI 0 = (1 : Int32) by decide)]
    rfl
  · rw [if_neg (show ¬ nI 1 = (3 : Int32) by decide), ofRoot_c (x := nI 1) (r := r) 1 rfl h2 (by decide), Option.bind_some, if_pos (show nI 1 = (1 : Int32) from rfl)]
    show _ = some (if gR (μ (q + 1)) r 1 < 0 then -1000 else gR (μ (q + 1)) r 1)
    by_cases c : gR (μ (q + 1)) r 1 < 0
    · rw [if_pos c, if_neg (Int32.not_le.mpr c)]
    · rw [if_neg c, if_pos (Int32.not_lt.mp c)]
  · rw [if_neg (show ¬ nI 2 = (3 : Int32) by decide), ofRoot_c (x := nI 2) (r := r) 2 rfl h2 (by decide), Option.bind_some, if_neg (show ¬ nI 2 = (1 : Int32) by decide)]
    rfl
  · rw [if_pos (show nI 3 = (3 : Int32) from rfl), current_n, Option.bind_some, if_neg (show ¬ nI 3 = (1 : Int32) by decide)]
    have hc := cur_lt (p := μ (q + 1))
    show _ = some (if r = cur (μ (q + 1)) then 1 else 0)
    by_cases c : r = cur (μ (q + 1))
    · rw [if_pos c, if_pos (congrArg nI c.symm)]
    · rw [if_neg c, if_neg (fun e => c (nI_inj (by omega) (by omega) e).symm)]
      rfl
theorem RG.readerPart (h : RG g μ p) (hi : INV B p) (h4 : r < 4) (hw : w < 3) : f_X4_readerPart g (nI r) (nI w) μ = some (trd p r w) := by
  unfold f_X4_readerPart trd
  rw [h.isOpen hi.1 h4, Option.bind_some]
  rcases (hi.1.2.2 r h4).1 with c | c
  · rw [if_pos c, if_neg (by rw [c]; decide)]
  · rw [if_neg (by rw [c]; decide), if_pos c]
    rcases (show w = 0 ∨ w = 1 ∨ w = 2 by omega) with rfl | rfl | rfl
    · rw [if_pos (show nI 0 = (0 : Int32) from rfl), h.rdCount h4 c]
      rfl
    · rw [if_neg (show ¬ nI 1 = (0 : Int32) by decide), if_pos (show nI 1 = (1 : Int32) from rfl), h.rdBed h4 c]
      rfl
    · have ho := hi.2.2.2.1 r h4 c
      rw [if_neg (show ¬ nI 2 = (0 : Int32) by decide), if_neg (show ¬ nI 2 = (1 : Int32) by decide), if_pos (show nI 2 = (2 : Int32) from rfl), h.rdBed h4 c, Option.bind_some, ho.1, h.1.entriesIn ho.2.1]
      rfl
theorem tellReader_n (hi : INV B (μ (q + 1))) (h4 : r < 4) (hw : w < 3) : f_X7_tellReader q (nI r) (nI w) μ = some (trd (μ (q + 1)) r w) := by
  unfold f_X7_tellReader f_X7_tellReader_b39 trd
  rw [ofReader_c (x := 0) (r := r) 0 rfl h4 (by decide), Option.bind_some]
  rcases (hi.1.2.2 r h4).1 with c | c
  · rw [if_pos c, if_neg (by rw [c]; decide)]
  · rw [if_neg (by rw [c]; decide), if_pos c]
    rcases (show w = 0 ∨ w = 1 ∨ w = 2 by omega) with rfl | rfl | rfl
    · rw [if_neg (show ¬ nI 0 = (2 : Int32) by decide), show nI 0 + 1 = (1 : Int32) from rfl, ofReader_c (x := 1) (r := r) 1 rfl h4 (by decide)]
      rfl
    · rw [if_neg (show ¬ nI 1 = (2 : Int32) by decide), show nI 1 + 1 = (2 : Int32) from rfl, ofReader_c (x := 2) (r := r) 2 rfl h4 (by decide)]
      rfl
    · have ho := hi.2.2.2.1 r h4 c
      rw [if_pos (show nI 2 = (2 : Int32) from rfl), ofReader_c (x := 2) (r := r) 2 rfl h4 (by decide), Option.bind_some, ho.1, entriesBy_n ho.2.1]
      rfl
theorem RG.bedPart (h : RG g μ p) (hr : RootOK p) (h32 : b < 32) (hw : w < 6) : f_X4_bedPart g (nI b) (nI w) μ = some (tbed p b w) := by
  unfold f_X4_bedPart f_X1_part
  rw [h.needed hr, Option.bind_some]
  have e := h.1.1 b h32
  rcases (show w = 0 ∨ w = 1 ∨ w = 2 ∨ w = 3 ∨ w = 4 ∨ w = 5 by omega) with rfl | rfl | rfl | rfl | rfl | rfl
  · rw [if_pos (show nI 0 = (0 : Int32) from rfl), cell_n h32 (by decide), e.1]
    rfl
  · rw [if_neg (show ¬ nI 1 = (0 : Int32) by decide), if_pos (show nI 1 = (1 : Int32) from rfl), cell_n h32 (by decide), e.2.1]
    rfl
  · rw [if_neg (show ¬ nI 2 = (0 : Int32) by decide), if_neg (show ¬ nI 2 = (1 : Int32) by decide), if_pos (show nI 2 = (2 : Int32) from rfl), cell_n h32 (by decide), e.2.2.1]
    rfl
  · rw [if_neg (show ¬ nI 3 = (0 : Int32) by decide), if_neg (show ¬ nI 3 = (1 : Int32) by decide), if_neg (show ¬ nI 3 = (2 : Int32) by decide), if_pos (show nI 3 = (3 : Int32) from rfl), cell_n h32 (by decide), e.2.2.2.1]
    rfl
  · rw [if_neg (show ¬ nI 4 = (0 : Int32) by decide), if_neg (show ¬ nI 4 = (1 : Int32) by decide), if_neg (show ¬ nI 4 = (2 : Int32) by decide), if_neg (show ¬ nI 4 = (3 : Int32) by decide), if_pos (show nI 4 = (4 : Int32) from rfl), h.canBeDug h32, Option.bind_some, one_c]
    rfl
  · rw [if_neg (show ¬ nI 5 = (0 : Int32) by decide), if_neg (show ¬ nI 5 = (1 : Int32) by decide), if_neg (show ¬ nI 5 = (2 : Int32) by decide), if_neg (show ¬ nI 5 = (3 : Int32) by decide), if_neg (show ¬ nI 5 = (4 : Int32) by decide), if_pos (show nI 5 = (5 : Int32) from rfl), cell_n h32 (by decide), e.2.2.2.2.1]
    rfl
theorem tellBed_n (h32 : b < 32) (hw : w < 6) : f_X7_tellBed q (nI b) (nI w) μ = some (tbed (μ (q + 1)) b w) := by
  unfold f_X7_tellBed f_X7_tellBed_b14 f_X7_tellBed_b75 f_X7_tellBed_b92 f_X7_tellBed_b115 f_X7_tellBed_b129
  rw [of0 h32, of1 h32, of2 h32, of3 h32, of4 h32, canBeDug_n h32]
  simp only [Option.bind_some, i10, ↓reduceIte]
  rcases (show w = 0 ∨ w = 1 ∨ w = 2 ∨ w = 3 ∨ w = 4 ∨ w = 5 by omega) with rfl | rfl | rfl | rfl | rfl | rfl
  · rw [if_pos (show nI 0 = (0 : Int32) from rfl), if_pos (show nI 0 = (0 : Int32) from rfl), ite_self]
    rfl
  · rw [if_neg (show ¬ nI 1 = (0 : Int32) by decide), if_pos (show nI 1 = (1 : Int32) from rfl), if_neg (show ¬ nI 1 = (0 : Int32) by decide), if_pos (show nI 1 = (1 : Int32) from rfl)]
    show _ = some (if gB (μ (q + 1)) b 0 = 0 then -1000 else gB (μ (q + 1)) b 1)
    split <;> rfl
  · rw [if_neg (show ¬ nI 2 = (0 : Int32) by decide), if_neg (show ¬ nI 2 = (1 : Int32) by decide), if_pos (show nI 2 = (2 : Int32) from rfl), if_neg (show ¬ nI 2 = (0 : Int32) by decide), if_neg (show ¬ nI 2 = (1 : Int32) by decide), if_pos (show nI 2 = (2 : Int32) from rfl)]
    show _ = some (if gB (μ (q + 1)) b 0 = 0 then -1000 else gB (μ (q + 1)) b 2)
    split <;> rfl
  · rw [if_neg (show ¬ nI 3 = (0 : Int32) by decide), if_neg (show ¬ nI 3 = (1 : Int32) by decide), if_neg (show ¬ nI 3 = (2 : Int32) by decide), if_pos (show nI 3 = (3 : Int32) from rfl), if_neg (show ¬ nI 3 = (0 : Int32) by decide), if_neg (show ¬ nI 3 = (1 : Int32) by decide), if_neg (show ¬ nI 3 = (2 : Int32) by decide), ite_self]
    show _ = some (if gB (μ (q + 1)) b 0 = 2 then gB (μ (q + 1)) b 3 else -1000)
    split <;> rfl
  · rw [if_neg (show ¬ nI 4 = (0 : Int32) by decide), if_neg (show ¬ nI 4 = (1 : Int32) by decide), if_neg (show ¬ nI 4 = (2 : Int32) by decide), if_neg (show ¬ nI 4 = (3 : Int32) by decide), if_pos (show nI 4 = (4 : Int32) from rfl), if_neg (show ¬ nI 4 = (0 : Int32) by decide), if_neg (show ¬ nI 4 = (1 : Int32) by decide), if_neg (show ¬ nI 4 = (2 : Int32) by decide), ite_self, ifz]
    show _ = some (if dg (μ (q + 1)) b then 1 else 0)
    split <;> rfl
  · rw [if_neg (show ¬ nI 5 = (0 : Int32) by decide), if_neg (show ¬ nI 5 = (1 : Int32) by decide), if_neg (show ¬ nI 5 = (2 : Int32) by decide), if_neg (show ¬ nI 5 = (3 : Int32) by decide), if_neg (show ¬ nI 5 = (4 : Int32) by decide), if_neg (show ¬ nI 5 = (0 : Int32) by decide), if_neg (show ¬ nI 5 = (1 : Int32) by decide), if_neg (show ¬ nI 5 = (2 : Int32) by decide), ite_self]
    rfl
theorem RG.wholePart (h : RG g μ p) (hi : INV B p) (hw : w < 14) (len : Int32) : f_X4_wholePart g (nI w) μ = some (twh p len w) := by
  unfold f_X4_wholePart
  rcases (show w = 0 ∨ w = 1 ∨ w = 2 ∨ w = 3 ∨ w = 4 ∨ w = 5 ∨ w = 6 ∨ w = 7 ∨ w = 8 ∨ w = 9 ∨ w = 10 ∨ w = 11 ∨ w = 12 ∨ w = 13 by omega) with rfl | rfl | rfl | rfl | rfl | rfl | rfl | rfl | rfl | rfl | rfl | rfl | rfl | rfl
  · rw [if_pos (show nI 0 = (0 : Int32) from rfl), h.1.countState 0]
    rfl
  · rw [if_neg (show ¬ nI 1 = (0 : Int32) by decide), if_pos (show nI 1 = (1 : Int32) from rfl), h.1.countState 1]
    rfl
  · rw [if_neg (show ¬ nI 2 = (0 : Int32) by decide), if_neg (show ¬ nI 2 = (1 : Int32) by decide), if_pos (show nI 2 = (2 : Int32) from rfl), h.1.countState 2]
    rfl
  · rw [if_neg (show ¬ nI 3 = (0 : Int32) by decide), if_neg (show ¬ nI 3 = (1 : Int32) by decide), if_neg (show ¬ nI 3 = (2 : Int32) by decide), if_pos (show nI 3 = (3 : Int32) from rfl), h.needed hi.1, Option.bind_some, h.countFreed]
    rfl
  · rw [if_neg (show ¬ nI 4 = (0 : Int32) by decide), if_neg (show ¬ nI 4 = (1 : Int32) by decide), if_neg (show ¬ nI 4 = (2 : Int32) by decide), if_neg (show ¬ nI 4 = (3 : Int32) by decide), if_pos (show nI 4 = (4 : Int32) from rfl), h.needed hi.1]
    rfl
  · unfold f_X4_currentEntries
    rw [if_neg (show ¬ nI 5 = (0 : Int32) by decide), if_neg (show ¬ nI 5 = (1 : Int32) by decide), if_neg (show ¬ nI 5 = (2 : Int32) by decide), if_neg (show ¬ nI 5 = (3 : Int32) by decide), if_neg (show ¬ nI 5 = (4 : Int32) by decide), if_pos (show nI 5 = (5 : Int32) from rfl), h.curDir hi, Option.bind_some, h.1.entriesIn hi.2.2.1.2.1]
    rfl
  · rw [if_neg (show ¬ nI 6 = (0 : Int32) by decide), if_neg (show ¬ nI 6 = (1 : Int32) by decide), if_neg (show ¬ nI 6 = (2 : Int32) by decide), if_neg (show ¬ nI 6 = (3 : Int32) by decide), if_neg (show ¬ nI 6 = (4 : Int32) by decide), if_neg (show ¬ nI 6 = (5 : Int32) by decide), if_pos (show nI 6 = (6 : Int32) from rfl), h.curDir hi, Option.bind_some, h.1.size hi.2.2.1.2.1.1 hi.2.2.1.2.1.2.1]
    rfl
  · rw [if_neg (show ¬ nI 7 = (0 : Int32) by decide), if_neg (show ¬ nI 7 = (1 : Int32) by decide), if_neg (show ¬ nI 7 = (2 : Int32) by decide), if_neg (show ¬ nI 7 = (3 : Int32) by decide), if_neg (show ¬ nI 7 = (4 : Int32) by decide), if_neg (show ¬ nI 7 = (5 : Int32) by decide), if_neg (show ¬ nI 7 = (6 : Int32) by decide), if_pos (show nI 7 = (7 : Int32) from rfl), h.openReaders hi.1]
    rfl
  · rw [if_neg (show ¬ nI 8 = (0 : Int32) by decide), if_neg (show ¬ nI 8 = (1 : Int32) by decide), if_neg (show ¬ nI 8 = (2 : Int32) by decide), if_neg (show ¬ nI 8 = (3 : Int32) by decide), if_neg (show ¬ nI 8 = (4 : Int32) by decide), if_neg (show ¬ nI 8 = (5 : Int32) by decide), if_neg (show ¬ nI 8 = (6 : Int32) by decide), if_neg (show ¬ nI 8 = (7 : Int32) by decide), if_pos (show nI 8 = (8 : Int32) from rfl), h.2.2.2.1]
    show _ = some (p 466)
    rcases hi.2.2.2.2.1 with c | c <;> rw [c] <;> rfl
  · rw [if_neg (show ¬ nI 9 = (0 : Int32) by decide), if_neg (show ¬ nI 9 = (1 : Int32) by decide), if_neg (show ¬ nI 9 = (2 : Int32) by decide), if_neg (show ¬ nI 9 = (3 : Int32) by decide), if_neg (show ¬ nI 9 = (4 : Int32) by decide), if_neg (show ¬ nI 9 = (5 : Int32) by decide), if_neg (show ¬ nI 9 = (6 : Int32) by decide), if_neg (show ¬ nI 9 = (7 : Int32) by decide), if_neg (show ¬ nI 9 = (8 : Int32) by decide), if_pos (show nI 9 = (9 : Int32) from rfl), h.1.countFresh hi.2.1]
    rfl
  · rw [if_neg (show ¬ nI 10 = (0 : Int32) by decide), if_neg (show ¬ nI 10 = (1 : Int32) by decide), if_neg (show ¬ nI 10 = (2 : Int32) by decide), if_neg (show ¬ nI 10 = (3 : Int32) by decide), if_neg (show ¬ nI 10 = (4 : Int32) by decide), if_neg (show ¬ nI 10 = (5 : Int32) by decide), if_neg (show ¬ nI 10 = (6 : Int32) by decide), if_neg (show ¬ nI 10 = (7 : Int32) by decide), if_neg (show ¬ nI 10 = (8 : Int32) by decide), if_neg (show ¬ nI 10 = (9 : Int32) by decide), if_pos (show nI 10 = (10 : Int32) from rfl), h.1.countLeft hi.2.1]
    rfl
  · rw [if_neg (show ¬ nI 11 = (0 : Int32) by decide), if_neg (show ¬ nI 11 = (1 : Int32) by decide), if_neg (show ¬ nI 11 = (2 : Int32) by decide), if_neg (show ¬ nI 11 = (3 : Int32) by decide), if_neg (show ¬ nI 11 = (4 : Int32) by decide), if_neg (show ¬ nI 11 = (5 : Int32) by decide), if_neg (show ¬ nI 11 = (6 : Int32) by decide), if_neg (show ¬ nI 11 = (7 : Int32) by decide), if_neg (show ¬ nI 11 = (8 : Int32) by decide), if_neg (show ¬ nI 11 = (9 : Int32) by decide), if_neg (show ¬ nI 11 = (10 : Int32) by decide), if_pos (show nI 11 = (11 : Int32) from rfl), h.2.2.2.2.2.1]
    rfl
  · rw [if_neg (show ¬ nI 12 = (0 : Int32) by decide), if_neg (show ¬ nI 12 = (1 : Int32) by decide), if_neg (show ¬ nI 12 = (2 : Int32) by decide), if_neg (show ¬ nI 12 = (3 : Int32) by decide), if_neg (show ¬ nI 12 = (4 : Int32) by decide), if_neg (show ¬ nI 12 = (5 : Int32) by decide), if_neg (show ¬ nI 12 = (6 : Int32) by decide), if_neg (show ¬ nI 12 = (7 : Int32) by decide), if_neg (show ¬ nI 12 = (8 : Int32) by decide), if_neg (show ¬ nI 12 = (9 : Int32) by decide), if_neg (show ¬ nI 12 = (10 : Int32) by decide), if_neg (show ¬ nI 12 = (11 : Int32) by decide), if_pos (show nI 12 = (12 : Int32) from rfl), h.2.2.2.2.2.2]
    rfl
  · rw [if_neg (show ¬ nI 13 = (0 : Int32) by decide), if_neg (show ¬ nI 13 = (1 : Int32) by decide), if_neg (show ¬ nI 13 = (2 : Int32) by decide), if_neg (show ¬ nI 13 = (3 : Int32) by decide), if_neg (show ¬ nI 13 = (4 : Int32) by decide), if_neg (show ¬ nI 13 = (5 : Int32) by decide), if_neg (show ¬ nI 13 = (6 : Int32) by decide), if_neg (show ¬ nI 13 = (7 : Int32) by decide), if_neg (show ¬ nI 13 = (8 : Int32) by decide), if_neg (show ¬ nI 13 = (9 : Int32) by decide), if_neg (show ¬ nI 13 = (10 : Int32) by decide), if_neg (show ¬ nI 13 = (11 : Int32) by decide), if_neg (show ¬ nI 13 = (12 : Int32) by decide), if_pos (show nI 13 = (13 : Int32) from rfl), h.curDir hi, Option.bind_some, h.1.sumIn hi.2.2.1.2.1]
    rfl
theorem tell_n (hi : INV B (μ (q + 1))) (hw : w < 15) : f_X7_tell q (nI w) μ = some (twh (μ (q + 1)) (μ q 5) w) := by
  unfold f_X7_tell
  rcases (show w = 0 ∨ w = 1 ∨ w = 2 ∨ w = 3 ∨ w = 4 ∨ w = 5 ∨ w = 6 ∨ w = 7 ∨ w = 8 ∨ w = 9 ∨ w = 10 ∨ w = 11 ∨ w = 12 ∨ w = 13 ∨ w = 14 by omega) with rfl | rfl | rfl | rfl | rfl | rfl | rfl | rfl | rfl | rfl | rfl | rfl | rfl | rfl | rfl
  · rw [if_pos (show nI 0 = (0 : Int32) from rfl), bedsWith_c (x := 0) 0 rfl (by decide)]
    rfl
  · rw [if_neg (show ¬ nI 1 = (0 : Int32) by decide), if_pos (show nI 1 = (1 : Int32) from rfl), bedsWith_c (x := 0) 0 rfl (by decide)]
    rfl
  · rw [if_neg (show ¬ nI 2 = (0 : Int32) by decide), if_neg (show ¬ nI 2 = (1 : Int32) by decide), if_pos (show nI 2 = (2 : Int32) from rfl), bedsWith_c (x := 0) 0 rfl (by decide)]
    rfl
  · rw [if_neg (show ¬ nI 3 = (0 : Int32) by decide), if_neg (show ¬ nI 3 = (1 : Int32) by decide), if_neg (show ¬ nI 3 = (2 : Int32) by decide), if_pos (show nI 3 = (3 : Int32) from rfl), freedToDig_n]
    rfl
  · rw [if_neg (show ¬ nI 4 = (0 : Int32) by decide), if_neg (show ¬ nI 4 = (1 : Int32) by decide), if_neg (show ¬ nI 4 = (2 : Int32) by decide), if_neg (show ¬ nI 4 = (3 : Int32) by decide), if_pos (show nI 4 = (4 : Int32) from rfl), needed_n]
    rfl
  · rw [if_neg (show ¬ nI 5 = (0 : Int32) by decide), if_neg (show ¬ nI 5 = (1 : Int32) by decide), if_neg (show ¬ nI 5 = (2 : Int32) by decide), if_neg (show ¬ nI 5 = (3 : Int32) by decide), if_neg (show ¬ nI 5 = (4 : Int32) by decide), if_pos (show nI 5 = (5 : Int32) from rfl), now_n hi.2.2.1.1, Option.bind_some, entriesBy_n hi.2.2.1.2.1]
    rfl
  · rw [if_neg (show ¬ nI 6 = (0 : Int32) by decide), if_neg (show ¬ nI 6 = (1 : Int32) by decide), if_neg (show ¬ nI 6 = (2 : Int32) by decide), if_neg (show ¬ nI 6 = (3 : Int32) by decide), if_neg (show ¬ nI 6 = (4 : Int32) by decide), if_neg (show ¬ nI 6 = (5 : Int32) by decide), if_pos (show nI 6 = (6 : Int32) from rfl), now_n hi.2.2.1.1, Option.bind_some, of2 hi.2.2.1.2.1.1]
    rfl
  · rw [if_neg (show ¬ nI 7 = (0 : Int32) by decide), if_neg (show ¬ nI 7 = (1 : Int32) by decide), if_neg (show ¬ nI 7 = (2 : Int32) by decide), if_neg (show ¬ nI 7 = (3 : Int32) by decide), if_neg (show ¬ nI 7 = (4 : Int32) by decide), if_neg (show ¬ nI 7 = (5 : Int32) by decide), if_neg (show ¬ nI 7 = (6 : Int32) by decide), if_pos (show nI 7 = (7 : Int32) from rfl), openReadersM_n]
    rfl
  · rw [if_neg (show ¬ nI 8 = (0 : Int32) by decide), if_neg (show ¬ nI 8 = (1 : Int32) by decide), if_neg (show ¬ nI 8 = (2 : Int32) by decide), if_neg (show ¬ nI 8 = (3 : Int32) by decide), if_neg (show ¬ nI 8 = (4 : Int32) by decide), if_neg (show ¬ nI 8 = (5 : Int32) by decide), if_neg (show ¬ nI 8 = (6 : Int32) by decide), if_neg (show ¬ nI 8 = (7 : Int32) by decide), if_pos (show nI 8 = (8 : Int32) from rfl), rd_c (i := 466) 466 rfl (by decide) (by decide)]
    rfl
  · rw [if_neg (show ¬ nI 9 = (0 : Int32) by decide), if_neg (show ¬ nI 9 = (1 : Int32) by decide), if_neg (show ¬ nI 9 = (2 : Int32) by decide), if_neg (show ¬ nI 9 = (3 : Int32) by decide), if_neg (show ¬ nI 9 = (4 : Int32) by decide), if_neg (show ¬ nI 9 = (5 : Int32) by decide), if_neg (show ¬ nI 9 = (6 : Int32) by decide), if_neg (show ¬ nI 9 = (7 : Int32) by decide), if_neg (show ¬ nI 9 = (8 : Int32) by decide), if_pos (show nI 9 = (9 : Int32) from rfl), bedsWith_c (x := 4) 4 rfl (by decide)]
    rfl
  · rw [if_neg (show ¬ nI 10 = (0 : Int32) by decide), if_neg (show ¬ nI 10 = (1 : Int32) by decide), if_neg (show ¬ nI 10 = (2 : Int32) by decide), if_neg (show ¬ nI 10 = (3 : Int32) by decide), if_neg (show ¬ nI 10 = (4 : Int32) by decide), if_neg (show ¬ nI 10 = (5 : Int32) by decide), if_neg (show ¬ nI 10 = (6 : Int32) by decide), if_neg (show ¬ nI 10 = (7 : Int32) by decide), if_neg (show ¬ nI 10 = (8 : Int32) by decide), if_neg (show ¬ nI 10 = (9 : Int32) by decide), if_pos (show nI 10 = (10 : Int32) from rfl), bedsWith_c (x := 5) 5 rfl (by decide)]
    rfl
  · rw [if_neg (show ¬ nI 11 = (0 : Int32) by decide), if_neg (show ¬ nI 11 = (1 : Int32) by decide), if_neg (show ¬ nI 11 = (2 : Int32) by decide), if_neg (show ¬ nI 11 = (3 : Int32) by decide), if_neg (show ¬ nI 11 = (4 : Int32) by decide), if_neg (show ¬ nI 11 = (5 : Int32) by decide), if_neg (show ¬ nI 11 = (6 : Int32) by decide), if_neg (show ¬ nI 11 = (7 : Int32) by decide), if_neg (show ¬ nI 11 = (8 : Int32) by decide), if_neg (show ¬ nI 11 = (9 : Int32) by decide), if_neg (show ¬ nI 11 = (10 : Int32) by decide), if_pos (show nI 11 = (11 : Int32) from rfl), rd_c (i := 468) 468 rfl (by decide) (by decide)]
    rfl
  · rw [if_neg (show ¬ nI 12 = (0 : Int32) by decide), if_neg (show ¬ nI 12 = (1 : Int32) by decide), if_neg (show ¬ nI 12 = (2 : Int32) by decide), if_neg (show ¬ nI 12 = (3 : Int32) by decide), if_neg (show ¬ nI 12 = (4 : Int32) by decide), if_neg (show ¬ nI 12 = (5 : Int32) by decide), if_neg (show ¬ nI 12 = (6 : Int32) by decide), if_neg (show ¬ nI 12 = (7 : Int32) by decide), if_neg (show ¬ nI 12 = (8 : Int32) by decide), if_neg (show ¬ nI 12 = (9 : Int32) by decide), if_neg (show ¬ nI 12 = (10 : Int32) by decide), if_neg (show ¬ nI 12 = (11 : Int32) by decide), if_pos (show nI 12 = (12 : Int32) from rfl), rd_c (i := 469) 469 rfl (by decide) (by decide)]
    rfl
  · rw [if_neg (show ¬ nI 13 = (0 : Int32) by decide), if_neg (show ¬ nI 13 = (1 : Int32) by decide), if_neg (show ¬ nI 13 = (2 : Int32) by decide), if_neg (show ¬ nI 13 = (3 : Int32) by decide), if_neg (show ¬ nI 13 = (4 : Int32) by decide), if_neg (show ¬ nI 13 = (5 : Int32) by decide), if_neg (show ¬ nI 13 = (6 : Int32) by decide), if_neg (show ¬ nI 13 = (7 : Int32) by decide), if_neg (show ¬ nI 13 = (8 : Int32) by decide), if_neg (show ¬ nI 13 = (9 : Int32) by decide), if_neg (show ¬ nI 13 = (10 : Int32) by decide), if_neg (show ¬ nI 13 = (11 : Int32) by decide), if_neg (show ¬ nI 13 = (12 : Int32) by decide), if_pos (show nI 13 = (13 : Int32) from rfl), sumOfValues_n hi.2.2.1.1 hi.2.2.1.2.1]
    rfl
  · rw [if_neg (show ¬ nI 14 = (0 : Int32) by decide), if_neg (show ¬ nI 14 = (1 : Int32) by decide), if_neg (show ¬ nI 14 = (2 : Int32) by decide), if_neg (show ¬ nI 14 = (3 : Int32) by decide), if_neg (show ¬ nI 14 = (4 : Int32) by decide), if_neg (show ¬ nI 14 = (5 : Int32) by decide), if_neg (show ¬ nI 14 = (6 : Int32) by decide), if_neg (show ¬ nI 14 = (7 : Int32) by decide), if_neg (show ¬ nI 14 = (8 : Int32) by decide), if_neg (show ¬ nI 14 = (9 : Int32) by decide), if_neg (show ¬ nI 14 = (10 : Int32) by decide), if_neg (show ¬ nI 14 = (11 : Int32) by decide), if_neg (show ¬ nI 14 = (12 : Int32) by decide), if_neg (show ¬ nI 14 = (13 : Int32) by decide)]
    rfl
end PPART
