/-! PURE, the invariant of a page; what the class reads of a garden -/
section PINV
def cd (p : Nat → Int32) : Nat := (nowp p).toNatClampNeg
def rdp (p : Nat → Int32) (r : Nat) : Nat := (gD p r 2).toNatClampNeg
def fdp (p : Nat → Int32) : Nat := (p 467).toNatClampNeg
/-- the directory and its leaves -/
def Pg (p : Nat → Int32) (d : Nat) (P : Nat → Prop) : Prop := P d ∧ ∀ i, i < nB p d 2 → P (nB p d (6 + i))
def BedsOK (p : Nat → Int32) : Prop := ∀ b, b < 32 → (gB p b 0 = 0 ∨ gB p b 0 = 1 ∨ gB p b 0 = 2) ∧ (gB p b 4 = 0 ∨ gB p b 4 = 1) ∧ (gB p b 5 = 0 ∨ gB p b 5 = 1) ∧ (gB p b 4 = 1 → gB p b 0 = 1 ∧ gB p b 5 = 0) ∧ (gB p b 5 = 1 → gB p b 0 = 1)
def CurOK (p : Nat → Int32) : Prop := nowp p = nI (cd p) ∧ DirOK p (cd p) ∧ Pg p (cd p) (fun b => gB p b 0 = 1 ∧ gB p b 4 = 0)
def ReadOK (p : Nat → Int32) (r : Nat) : Prop := gD p r 2 = nI (rdp p r) ∧ DirOK p (rdp p r) ∧ Pg p (rdp p r) (fun b => (gB p b 0 = 1 ∧ gB p b 4 = 0) ∨ (gB p b 0 = 2 ∧ gD p r 1 < gB p b 3)) ∧ gD p r 1 ≤ gR p (cur p) 0
def NoDraft (p : Nat → Int32) : Prop := p 467 = -1 ∧ ∀ b, b < 32 → gB p b 4 = 0 ∧ gB p b 5 = 0
def HasDraft (p : Nat → Int32) : Prop := p 466 = 1 ∧ p 467 = nI (fdp p) ∧ DirOK p (fdp p) ∧ gB p (fdp p) 4 = 1 ∧ Pg p (fdp p) (fun b => gB p b 0 = 1 ∧ gB p b 5 = 0)
def INV (B : Int) (p : Nat → Int32) : Prop := RootOK p ∧ BedsOK p ∧ CurOK p ∧ (∀ r, r < 4 → gD p r 0 = 1 → ReadOK p r) ∧ (p 466 = 0 ∨ p 466 = 1) ∧ (NoDraft p ∨ HasDraft p) ∧ (gR p (cur p) 0).toInt ≤ B
theorem INV.weaken {B C : Int} {p : Nat → Int32} (h : INV B p) (hc : B ≤ C) : INV C p := ⟨h.1, h.2.1, h.2.2.1, h.2.2.2.1, h.2.2.2.2.1, h.2.2.2.2.2.1, Int.le_trans h.2.2.2.2.2.2 hc⟩
def drd (p : Nat → Int32) : Nat := if p 467 < 0 then cd p else fdp p
variable {q : Nat} {μ : Mem} {g : Nat} {p : Nat → Int32} {B : Int} {key : Int32}
theorem NoDraft.lt (h : NoDraft p) : p 467 < 0 := by rw [h.1]; decide
theorem HasDraft.nlt (h : HasDraft p) : ¬ p 467 < 0 := by
  rw [h.2.1]
  have := h.2.2.1.1
  exact nI_nz (by omega)
theorem INV.dd (h : INV B p) : drf p = nI (drd p) ∧ DirOK p (drd p) := by
  unfold drf drd
  by_cases c : p 467 < 0
  · rw [if_pos c, if_pos c]
    exact ⟨h.2.2.1.1, h.2.2.1.2.1⟩
  · rw [if_neg c, if_neg c]
    rcases h.2.2.2.2.2.1 with d | d
    · exact absurd d.lt c
    · exact ⟨d.2.1, d.2.2.1⟩
theorem INV.fresh (h : INV B p) : gB p (drd p) 4 = (if p 467 < 0 then 0 else 1) := by
  unfold drd
  by_cases c : p 467 < 0
  · rw [if_pos c, if_pos c]
    exact h.2.2.1.2.2.1.2
  · rw [if_neg c, if_neg c]
    rcases h.2.2.2.2.2.1 with d | d
    · exact absurd d.lt c
    · exact d.2.2.2.1
theorem RG.curDir (h : RG g μ p) (hi : INV B p) : f_X4_currentDirectory g μ = some (nI (cd p)) := by
  unfold f_X4_currentDirectory
  rw [h.currentRoot hi.1, Option.bind_some, cell_n cur_lt (by decide), Option.bind_some, (h.2.1 (cur p) cur_lt).2.1]
  have e : gR p (cur p) 1 = nI (cd p) := hi.2.2.1.1
  have hd := hi.2.2.1.2.1.1
  rw [e, if_neg (nI_nz (by omega))]
theorem RG.curCount (h : RG g μ p) (hi : INV B p) : f_X4_currentCount g μ = some (gR p (cur p) 0) := by
  unfold f_X4_currentCount
  rw [h.currentRoot hi.1, Option.bind_some, cell_n cur_lt (by decide), Option.bind_some, (h.2.1 (cur p) cur_lt).1]
theorem RG.isOpen (h : RG g μ p) (hr : RootOK p) {r : Nat} (hr4 : r < 4) : f_X4_isOpen g (nI r) μ = some (gD p r 0) := by
  unfold f_X4_isOpen f_X4_isOpen_b19
  rw [cell_n hr4 (by decide), Option.bind_some, (h.2.2.1 r hr4).1]
  rcases (hr.2.2 r hr4).1 with c | c
  · rw [if_neg (show ¬ gD p r 0 = 1 by rw [c]; decide), if_pos rfl, c]
    rfl
  · rw [if_pos c, if_neg (not_none ((hr.2.2 r hr4).2 c)), c]
    rfl
theorem RG.rdBed (h : RG g μ p) {r : Nat} (hr4 : r < 4) (ho : gD p r 0 = 1) : f_X6_cell (g + 15) 4 (nI r) μ = some (gD p r 2) := by
  rw [cell_n hr4 (by decide), (h.2.2.1 r hr4).2, if_pos ho]
theorem RG.rdCount (h : RG g μ p) {r : Nat} (hr4 : r < 4) (ho : gD p r 0 = 1) : f_X6_cell (g + 14) 4 (nI r) μ = some (gD p r 1) := by
  rw [cell_n hr4 (by decide), (h.2.2.1 r hr4).1, if_pos ho]
theorem countInState_b4 {v : Int32} : ∀ (n k fu : Nat) (a : Int32), k + n = 32 → n < fu → f_X1_countInState_b4 q fu v a (nI k) μ = some (lp (fun j (x : Int32) => x + (if decide (μ (q + 1) j = v) then 1 else 0)) n k a) := by
  intro n
  induction n with
  | zero =>
    intro k fu a hk hf
    obtain ⟨fu, rfl⟩ : ∃ z, fu = z + 1 := ⟨fu - 1, by omega⟩
    rw [f_X1_countInState_b4, if_pos (lI (c := 32) 32 k rfl (by omega) (by omega))]
    rfl
  | succ n ih =>
    intro k fu a hk hf
    obtain ⟨fu, rfl⟩ : ∃ z, fu = z + 1 := ⟨fu - 1, by omega⟩
    rw [f_X1_countInState_b4, if_neg (nlI (c := 32) 32 k rfl (by omega) (by omega)), rd_n (by omega) (by omega), Option.bind_some]
    unfold f_X1_countInState_b26
    rw [show f_X6_one 1 = some 1 from rfl, show f_X6_one 0 = some 0 from rfl, Option.bind_some, Option.bind_some, nI_1, ih (k + 1) fu _ (by omega) (by omega), ih (k + 1) fu _ (by omega) (by omega)]
    show _ = some (lp _ n (k + 1) (a + (if decide (μ (q + 1) k = v) then 1 else 0)))
    by_cases c : μ (q + 1) k = v
    · rw [if_pos c, if_pos (decide_eq_true c)]
    · rw [if_neg c, if_neg (fun z => c (of_decide_eq_true z))]
theorem RB.countState (h : RB q μ p) (v : Int32) : f_X1_countInState q v μ = some (nI (ct (fun b => decide (gB p b 0 = v)) 32)) := by
  have q1 := countInState_b4 (q := q) (μ := μ) (v := v) 32 0 FU 0 (by omega) (by decide)
  rw [nI_0] at q1
  unfold f_X1_countInState
  rw [q1, ← ct_lp0]
  exact congrArg some (lp_cg _ _ _ (fun j h1 h2 a => by rw [(h.1 j (by omega)).1]))
theorem countFreedC_b4 {w : Int32} : ∀ (n k fu : Nat) (a : Int32), k + n = 32 → n < fu → f_X1_countFreedToDig_b4 q fu w a (nI k) μ = some (lp (fun j (x : Int32) => x + (if decide (μ (q + 1) j = 2) && decide (μ (q + 4) j ≤ w) then 1 else 0)) n k a) := by
  intro n
  induction n with
  | zero =>
    intro k fu a hk hf
    obtain ⟨fu, rfl⟩ : ∃ z, fu = z + 1 := ⟨fu - 1, by omega⟩
    rw [f_X1_countFreedToDig_b4, if_pos (lI (c := 32) 32 k rfl (by omega) (by omega))]
    rfl
  | succ n ih =>
    intro k fu a hk hf
    obtain ⟨fu, rfl⟩ : ∃ z, fu = z + 1 := ⟨fu - 1, by omega⟩
    rw [f_X1_countFreedToDig_b4, if_neg (nlI (c := 32) 32 k rfl (by omega) (by omega)), canBeDugC_n (by omega), Option.bind_some, one_c, Option.bind_some, nI_1, ih (k + 1) fu _ (by omega) (by omega)]
    rfl
theorem RG.countFreed (h : RG g μ p) : f_X1_countFreedToDig (g + 1) (need p (-1)) μ = some (nI (nfree p)) := by
  have q1 := countFreedC_b4 (q := g + 1) (μ := μ) (w := need p (-1)) 32 0 FU 0 (by omega) (by decide)
  rw [nI_0] at q1
  unfold f_X1_countFreedToDig nfree
  rw [q1, ← ct_lp0]
  exact congrArg some (lp_cg _ _ _ (fun j h1 h2 a => by
    have e := h.canBeDug (b := j) (by omega)
    rw [canBeDugC_n (by omega)] at e
    rw [Option.some.inj e]))
theorem ct_or {P Q : Nat → Bool} : ∀ (n : Nat), (∀ j, j < n → P j = true → Q j = false) → ct (fun b => P b || Q b) n = ct P n + ct Q n
  | 0, _ => rfl
  | n + 1, h => by
    have e : ∀ R : Nat → Bool, ct R (n + 1) = ct R n + (if R n then 1 else 0) := fun R => rfl
    rw [e, e, e, ct_or n (fun j hj => h j (by omega))]
    by_cases c : P n = true
    · rw [if_pos (by rw [c]; rfl), if_pos c, if_neg (by rw [h n (by omega) c]; decide)]
      omega
    · by_cases c2 : Q n = true
      · rw [if_pos (by rw [c2]; exact Bool.or_true _), if_neg c, if_pos c2]
        omega
      · rw [if_neg (by rw [eq_false_of_ne_true c, eq_false_of_ne_true c2]; decide), if_neg c, if_neg c2]
        omega
theorem RG.bedsToDig (h : RG g μ p) (hi : INV B p) : f_X4_bedsToDig g μ = some (nI (many p)) := by
  unfold f_X4_bedsToDig many
  rw [h.needed hi.1, Option.bind_some, h.countFreed, Option.bind_some, h.1.countState 0, Option.bind_some, nI_add, ct_or 32 (fun j hj c => dg_nw c)]
  rfl
theorem RG.bedToDig (h : RG g μ p) (hi : INV B p) : f_X4_bedToDig g μ = some (oI (-1000) (nxt p)) := by
  unfold f_X4_bedToDig
  rw [h.needed hi.1, Option.bind_some, h.bedToDig1, Option.bind_some]
theorem sumRow {f : Nat → Int32} {P : Nat → Bool} (hf : ∀ b, b < 32 → f b = if P b then 1 else 0) : lp (fun j (x : Int32) => x + f j) 32 0 0 = nI (ct P 32) := by
  rw [← ct_lp0]
  exact lp_cg _ _ _ (fun j h1 h2 a => by rw [hf j (by omega)])
theorem countFresh_b4 : ∀ (n k fu : Nat) (a : Int32), k + n = 32 → n < fu → f_X1_countFresh_b4 q fu a (nI k) μ = some (lp (fun j (x : Int32) => x + μ (q + 5) j) n k a) := by
  intro n
  induction n with
  | zero =>
    intro k fu a hk hf
    obtain ⟨fu, rfl⟩ : ∃ z, fu = z + 1 := ⟨fu - 1, by omega⟩
    rw [f_X1_countFresh_b4, if_pos (lI (c := 32) 32 k rfl (by omega) (by omega))]
    rfl
  | succ n ih =>
    intro k fu a hk hf
    obtain ⟨fu, rfl⟩ : ∃ z, fu = z + 1 := ⟨fu - 1, by omega⟩
    rw [f_X1_countFresh_b4, if_neg (nlI (c := 32) 32 k rfl (by omega) (by omega)), rd_n (by omega) (by omega), Option.bind_some, nI_1, ih (k + 1) fu _ (by omega) (by omega)]
    rfl
theorem countLeft_b4 : ∀ (n k fu : Nat) (a : Int32), k + n = 32 → n < fu → f_X1_countLeft_b4 q fu a (nI k) μ = some (lp (fun j (x : Int32) => x + μ (q + 6) j) n k a) := by
  intro n
  induction n with
  | zero =>
    intro k fu a hk hf
    obtain ⟨fu, rfl⟩ : ∃ z, fu = z + 1 := ⟨fu - 1, by omega⟩
    rw [f_X1_countLeft_b4, if_pos (lI (c := 32) 32 k rfl (by omega) (by omega))]
    rfl
  | succ n ih =>
    intro k fu a hk hf
    obtain ⟨fu, rfl⟩ : ∃ z, fu = z + 1 := ⟨fu - 1, by omega⟩
    rw [f_X1_countLeft_b4, if_neg (nlI (c := 32) 32 k rfl (by omega) (by omega)), rd_n (by omega) (by omega), Option.bind_some, nI_1, ih (k + 1) fu _ (by omega) (by omega)]
    rfl
theorem z1_if {x : Int32} (h : x = 0 ∨ x = 1) : x = if decide (x = 1) then 1 else 0 := by
  rcases h with rfl | rfl <;> rfl
theorem RB.countFresh (h : RB q μ p) (hb : BedsOK p) : f_X1_countFresh q μ = some (nI (ct (fun b => decide (gB p b 4 = 1)) 32)) := by
  have q1 := countFresh_b4 (q := q) (μ := μ) 32 0 FU 0 (by omega) (by decide)
  rw [nI_0] at q1
  unfold f_X1_countFresh
  rw [q1, sumRow (fun b h32 => by rw [(h.1 b h32).2.2.2.2.1]; exact z1_if (hb b h32).2.1)]
theorem RB.countLeft (h : RB q μ p) (hb : BedsOK p) : f_X1_countLeft q μ = some (nI (ct (fun b => decide (gB p b 5 = 1)) 32)) := by
  have q1 := countLeft_b4 (q := q) (μ := μ) 32 0 FU 0 (by omega) (by decide)
  rw [nI_0] at q1
  unfold f_X1_countLeft
  rw [q1, sumRow (fun b h32 => by rw [(h.1 b h32).2.2.2.2.2]; exact z1_if (hb b h32).2.2.1)]
theorem bedsWith_b5 {w : Nat} {v : Int32} (hw : w < 14) : ∀ (n k fu : Nat) (a : Int32), k + n = 32 → n < fu → f_X7_bedsWith_b5 q fu (nI w) v a (nI k) μ = some (lp (fun j (x : Int32) => x + (if decide (gB (μ (q + 1)) j w = v) then 1 else 0)) n k a) := by
  intro n
  induction n with
  | zero =>
    intro k fu a hk hf
    obtain ⟨fu, rfl⟩ : ∃ z, fu = z + 1 := ⟨fu - 1, by omega⟩
    rw [f_X7_bedsWith_b5, if_pos (lI (c := 32) 32 k rfl (by omega) (by omega))]
    rfl
  | succ n ih =>
    intro k fu a hk hf
    obtain ⟨fu, rfl⟩ : ∃ z, fu = z + 1 := ⟨fu - 1, by omega⟩
    rw [f_X7_bedsWith_b5, if_neg (nlI (c := 32) 32 k rfl (by omega) (by omega)), of_n (by omega) hw, Option.bind_some]
    unfold f_X7_bedsWith_b29
    rw [nI_1, ih (k + 1) fu _ (by omega) (by omega), ih (k + 1) fu _ (by omega) (by omega)]
    show _ = some (lp _ n (k + 1) (a + (if decide (gB (μ (q + 1)) k w = v) then 1 else 0)))
    by_cases c : gB (μ (q + 1)) k w = v
    · rw [if_pos c, if_pos (decide_eq_true c)]
    · rw [if_neg c, if_neg (fun z => c (of_decide_eq_true z))]
theorem bedsWith_c {v x : Int32} (w : Nat) (e : x = nI w) (hw : w < 14) : f_X7_bedsWith q x v μ = some (nI (ct (fun b => decide (gB (μ (q + 1)) b w = v)) 32)) := by
  have q1 := bedsWith_b5 (q := q) (μ := μ) (v := v) hw 32 0 FU 0 (by omega) (by decide)
  rw [nI_0] at q1
  unfold f_X7_bedsWith
  rw [e, q1, ← ct_lp0]
theorem openReadersM_b4 : ∀ (n k fu : Nat) (a : Int32), k + n = 4 → n < fu → f_X7_openReaders_b4 q fu a (nI k) μ = some (lp (fun j (x : Int32) => x + gD (μ (q + 1)) j 0) n k a) := by
  intro n
  induction n with
  | zero =>
    intro k fu a hk hf
    obtain ⟨fu, rfl⟩ : ∃ z, fu = z + 1 := ⟨fu - 1, by omega⟩
    rw [f_X7_openReaders_b4, if_pos (lI (c := 4) 4 k rfl (by omega) (by omega))]
    rfl
  | succ n ih =>
    intro k fu a hk hf
    obtain ⟨fu, rfl⟩ : ∃ z, fu = z + 1 := ⟨fu - 1, by omega⟩
    rw [f_X7_openReaders_b4, if_neg (nlI (c := 4) 4 k rfl (by omega) (by omega)), ofReader_c (x := 0) (r := k) 0 rfl (by omega) (by decide), Option.bind_some, nI_1, ih (k + 1) fu _ (by omega) (by omega)]
    rfl
theorem openReadersM_n : f_X7_openReaders q μ = some (lp (fun j (x : Int32) => x + gD (μ (q + 1)) j 0) 4 0 0) := by
  have q1 := openReadersM_b4 (q := q) (μ := μ) 4 0 FU 0 (by omega) (by decide)
  rw [nI_0] at q1
  exact q1
theorem RG.openReaders_b4 (h : RG g μ p) (hr : RootOK p) : ∀ (n k fu : Nat) (a : Int32), k + n = 4 → n < fu → f_X4_openReaders_b4 g fu a (nI k) μ = some (lp (fun j (x : Int32) => x + gD p j 0) n k a) := by
  intro n
  induction n with
  | zero =>
    intro k fu a hk hf
    obtain ⟨fu, rfl⟩ : ∃ z, fu = z + 1 := ⟨fu - 1, by omega⟩
    rw [f_X4_openReaders_b4, if_pos (lI (c := 4) 4 k rfl (by omega) (by omega))]
    rfl
  | succ n ih =>
    intro k fu a hk hf
    obtain ⟨fu, rfl⟩ : ∃ z, fu = z + 1 := ⟨fu - 1, by omega⟩
    have hk2 : k < 4 := by omega
    have e : f_X6_one (gD p k 0) = some (gD p k 0) := by rcases (hr.2.2 k hk2).1 with c | c <;> rw [c] <;> rfl
    rw [f_X4_openReaders_b4, if_neg (nlI (c := 4) 4 k rfl (by omega) (by omega)), h.isOpen hr hk2, Option.bind_some, e, Option.bind_some, nI_1, ih (k + 1) fu _ (by omega) (by omega)]
    rfl
theorem RG.openReaders (h : RG g μ p) (hr : RootOK p) : f_X4_openReaders g μ = some (lp (fun j (x : Int32) => x + gD p j 0) 4 0 0) := by
  have q1 := h.openReaders_b4 hr 4 0 FU 0 (by omega) (by decide)
  rw [nI_0] at q1
  exact q1
end PINV
