/-! PURE, the model's reads in closed form over its page -/
section PMODR
def gB (p : Nat → Int32) (b w : Nat) : Int32 := p (14 * b + w)
def gR (p : Nat → Int32) (r w : Nat) : Int32 := p (448 + 3 * r + w)
def gD (p : Nat → Int32) (r w : Nat) : Int32 := p (454 + 3 * r + w)
def nB (p : Nat → Int32) (b w : Nat) : Nat := (gB p b w).toNatClampNeg
def cur (p : Nat → Int32) : Nat := if gR p 1 2 = 1 ∧ (gR p 0 2 = 0 ∨ gR p 0 0 < gR p 1 0) then 1 else 0
def rmin (p : Nat → Int32) (r : Nat) (m : Int32) : Int32 := if gR p r 2 = 1 ∧ gR p r 0 < m then gR p r 0 else m
def dmin (p : Nat → Int32) (w : Int32) (r : Nat) (m : Int32) : Int32 := if nI r ≠ w ∧ gD p r 0 = 1 ∧ gD p r 1 < m then gD p r 1 else m
def need (p : Nat → Int32) (w : Int32) : Int32 := lp (dmin p w) 4 0 (lp (rmin p) 2 0 (gR p (cur p) 0))
def dg (p : Nat → Int32) (b : Nat) : Bool := decide (gB p b 0 = 2) && decide (gB p b 3 ≤ need p (-1))
def wild (p : Nat → Int32) (b : Nat) : Bool := decide (gB p b 0 = 0)
def ostep (p : Nat → Int32) (b : Nat) (o : Option Nat) : Option Nat := if dg p b && (match o with | none => true | some f => decide (gB p b 3 < gB p f 3)) then some b else o
def nxt (p : Nat → Int32) : Option Nat := match lp (ostep p) 32 0 none with
  | some b => some b
  | none => sr (wild p) 32 0
def many (p : Nat → Int32) : Nat := ct (fun b => dg p b || wild p b) 32
def nfree (p : Nat → Int32) : Nat := ct (dg p) 32
variable {q : Nat} {μ : Mem}
theorem cur_lt {p : Nat → Int32} : cur p < 2 := by unfold cur; split <;> omega
theorem of_n {b w : Nat} (hb : b < 32) (hw : w < 14) : f_X7_of q (nI b) (nI w) μ = some (gB (μ (q + 1)) b w) := by
  unfold f_X7_of
  rw [show (0 : Int32) + 14 * nI b + nI w = nI (14 * b + w) by rw [show (14 : Int32) = nI 14 from rfl, nI_mul, Int32.zero_add, nI_add], rd_n (by omega) (by omega)]
  rfl
theorem of_c {b : Nat} {x : Int32} (w : Nat) (e : x = nI w) (hb : b < 32) (hw : w < 14) : f_X7_of q (nI b) x μ = some (gB (μ (q + 1)) b w) := by rw [e]; exact of_n hb hw
theorem of0 {b : Nat} (hb : b < 32) : f_X7_of q (nI b) 0 μ = some (gB (μ (q + 1)) b 0) := of_c 0 rfl hb (by decide)
theorem of1 {b : Nat} (hb : b < 32) : f_X7_of q (nI b) 1 μ = some (gB (μ (q + 1)) b 1) := of_c 1 rfl hb (by decide)
theorem of2 {b : Nat} (hb : b < 32) : f_X7_of q (nI b) 2 μ = some (gB (μ (q + 1)) b 2) := of_c 2 rfl hb (by decide)
theorem of3 {b : Nat} (hb : b < 32) : f_X7_of q (nI b) 3 μ = some (gB (μ (q + 1)) b 3) := of_c 3 rfl hb (by decide)
theorem of4 {b : Nat} (hb : b < 32) : f_X7_of q (nI b) 4 μ = some (gB (μ (q + 1)) b 4) := of_c 4 rfl hb (by decide)
theorem of5 {b : Nat} (hb : b < 32) : f_X7_of q (nI b) 5 μ = some (gB (μ (q + 1)) b 5) := of_c 5 rfl hb (by decide)
theorem lay_n {b w : Nat} {x : Int32} (hb : b < 32) (hw : w < 14) : f_X7_lay q (nI b) (nI w) x μ = some (mst μ (q + 1) (14 * b + w) x) := by
  unfold f_X7_lay
  rw [show (0 : Int32) + 14 * nI b + nI w = nI (14 * b + w) by rw [show (14 : Int32) = nI 14 from rfl, nI_mul, Int32.zero_add, nI_add], wr_n (by omega) (by omega)]
  rfl
theorem lay_c {b : Nat} {x y : Int32} (w : Nat) (e : y = nI w) (hb : b < 32) (hw : w < 14) : f_X7_lay q (nI b) y x μ = some (mst μ (q + 1) (14 * b + w) x) := by rw [e]; exact lay_n hb hw
theorem ofRoot_c {r : Nat} {x : Int32} (w : Nat) (e : x = nI w) (hr : r < 2) (hw : w < 3) : f_X7_ofRoot q (nI r) x μ = some (gR (μ (q + 1)) r w) := by
  unfold f_X7_ofRoot
  rw [e, show (448 : Int32) + 3 * nI r + nI w = nI (448 + 3 * r + w) by rw [show (3 : Int32) = nI 3 from rfl, nI_mul, show (448 : Int32) = nI 448 from rfl, nI_add, nI_add], rd_n (by omega) (by omega)]
  rfl
theorem ofReader_c {r : Nat} {x : Int32} (w : Nat) (e : x = nI w) (hr : r < 4) (hw : w < 3) : f_X7_ofReader q (nI r) x μ = some (gD (μ (q + 1)) r w) := by
  unfold f_X7_ofReader
  rw [e, show (454 : Int32) + 3 * nI r + nI w = nI (454 + 3 * r + w) by rw [show (3 : Int32) = nI 3 from rfl, nI_mul, show (454 : Int32) = nI 454 from rfl, nI_add, nI_add], rd_n (by omega) (by omega)]
  rfl
theorem current_n : f_X7_current q μ = some (nI (cur (μ (q + 1)))) := by
  unfold f_X7_current f_X7_current_b42 f_X7_current_b46 f_X7_current_b47 f_X7_current_b57
  rw [rd_c (i := 453) 453 rfl (by decide) (by decide), rd_c (i := 450) 450 rfl (by decide) (by decide), rd_c (i := 451) 451 rfl (by decide) (by decide), rd_c (i := 448) 448 rfl (by decide) (by decide)]
  simp only [Option.bind_some, i10, ↓reduceIte]
  unfold cur gR
  by_cases c1 : μ (q + 1) 453 = 1
  · by_cases c2 : μ (q + 1) 450 = 0
    · rw [if_pos c1, if_pos c2, if_pos ⟨c1, Or.inl c2⟩]
      rfl
    · by_cases c3 : μ (q + 1) 451 ≤ μ (q + 1) 448
      · rw [if_pos c1, if_neg c2, if_pos c3, if_neg (fun h => h.2.elim c2 (fun h => Int32.not_le.mpr h c3))]
        rfl
      · rw [if_pos c1, if_neg c2, if_neg c3, if_pos ⟨c1, Or.inr (Int32.not_le.mp c3)⟩]
        rfl
  · rw [if_neg c1, if_neg (fun h => c1 h.1)]
    rfl
theorem dmin_y {p : Nat → Int32} {w m : Int32} {r : Nat} (h1 : ¬ nI r = w) (h2 : gD p r 0 = 1) (h3 : gD p r 1 < m) : dmin p w r m = gD p r 1 := if_pos ⟨h1, h2, h3⟩
theorem dmin_1 {p : Nat → Int32} {w m : Int32} {r : Nat} (h : nI r = w) : dmin p w r m = m := if_neg (fun q => q.1 h)
theorem dmin_2 {p : Nat → Int32} {w m : Int32} {r : Nat} (h : ¬ gD p r 0 = 1) : dmin p w r m = m := if_neg (fun q => h q.2.1)
theorem dmin_3 {p : Nat → Int32} {w m : Int32} {r : Nat} (h : ¬ gD p r 1 < m) : dmin p w r m = m := if_neg (fun q => h q.2.2)
theorem rmin_y {p : Nat → Int32} {m : Int32} {r : Nat} (h2 : gR p r 2 = 1) (h3 : gR p r 0 < m) : rmin p r m = gR p r 0 := if_pos ⟨h2, h3⟩
theorem rmin_1 {p : Nat → Int32} {m : Int32} {r : Nat} (h : ¬ gR p r 2 = 1) : rmin p r m = m := if_neg (fun q => h q.1)
theorem rmin_2 {p : Nat → Int32} {m : Int32} {r : Nat} (h : ¬ gR p r 0 < m) : rmin p r m = m := if_neg (fun q => h q.2)
theorem ostep_none {p : Nat → Int32} {b : Nat} (h : dg p b = true) : ostep p b none = some b := by
  unfold ostep
  rw [h]
  rfl
theorem ostep_y {p : Nat → Int32} {b g : Nat} (h : dg p b = true) (hl : gB p b 3 < gB p g 3) : ostep p b (some g) = some b := by
  simp [ostep, h, hl]
theorem ostep_n {p : Nat → Int32} {b g : Nat} (h : dg p b = true) (hl : ¬ gB p b 3 < gB p g 3) : ostep p b (some g) = some g := by
  simp [ostep, h, hl]
theorem ostep_no {p : Nat → Int32} {b : Nat} {o : Option Nat} (h : dg p b = false) : ostep p b o = o := by
  simp [ostep, h]
theorem needed_b68 (w : Int32) : ∀ (n k fu : Nat) (m : Int32), k + n = 4 → n < fu → f_X7_needed_b68 q fu w m (nI k) μ = some (lp (dmin (μ (q + 1)) w) n k m) := by
  intro n
  induction n with
  | zero =>
    intro k fu m hk hf
    obtain ⟨f, rfl⟩ : ∃ f, fu = f + 1 := ⟨fu - 1, by omega⟩
    rw [f_X7_needed_b68, if_pos (lI (c := 4) 4 k rfl (by omega) (by omega))]
    rfl
  | succ n ih =>
    intro k fu m hk hf
    obtain ⟨f, rfl⟩ : ∃ f, fu = f + 1 := ⟨fu - 1, by omega⟩
    have hih : ∀ m, f_X7_needed_b68 q f w m (nI k + 1) μ = some (lp (dmin (μ (q + 1)) w) n (k + 1) m) := fun m => by
      rw [nI_1]
      exact ih (k + 1) f m (by omega) (by omega)
    rw [f_X7_needed_b68, if_neg (nlI (c := 4) 4 k rfl (by omega) (by omega))]
    unfold f_X7_needed_b102 f_X7_needed_b103 f_X7_needed_b120
    rw [ofReader_c (x := 0) (r := k) 0 rfl (by omega) (by decide), ofReader_c (x := 1) (r := k) 1 rfl (by omega) (by decide)]
    simp only [Option.bind_some, hih, i10, ↓reduceIte]
    show _ = some (lp (dmin (μ (q + 1)) w) n (k + 1) (dmin (μ (q + 1)) w k m))
    by_cases c1 : nI k = w
    · rw [if_pos c1, dmin_1 c1]
    · by_cases c2 : gD (μ (q + 1)) k 0 = 1
      · by_cases c3 : m ≤ gD (μ (q + 1)) k 1
        · rw [if_neg c1, if_pos c2, if_pos c3, dmin_3 (Int32.not_lt.mpr c3)]
        · rw [if_neg c1, if_pos c2, if_neg c3, dmin_y c1 c2 (Int32.not_le.mp c3)]
      · rw [if_neg c1, if_neg c2, dmin_2 c2]
theorem needed_b12 (w : Int32) : ∀ (n k fu : Nat) (m : Int32), k + n = 2 → n < fu → f_X7_needed_b12 q fu w m (nI k) μ = some (lp (dmin (μ (q + 1)) w) 4 0 (lp (rmin (μ (q + 1))) n k m)) := by
  intro n
  induction n with
  | zero =>
    intro k fu m hk hf
    obtain ⟨f, rfl⟩ : ∃ f, fu = f + 1 := ⟨fu - 1, by omega⟩
    rw [f_X7_needed_b12, if_pos (lI (c := 2) 2 k rfl (by omega) (by omega))]
    have h := needed_b68 (q := q) (μ := μ) w 4 0 FU m (by omega) (by decide)
    rw [nI_0] at h
    exact h
  | succ n ih =>
    intro k fu m hk hf
    obtain ⟨f, rfl⟩ : ∃ f, fu = f + 1 := ⟨fu - 1, by omega⟩
    have hih : ∀ m, f_X7_needed_b12 q f w m (nI k + 1) μ = some (lp (dmin (μ (q + 1)) w) 4 0 (lp (rmin (μ (q + 1))) n (k + 1) m)) := fun m => by
      rw [nI_1]
      exact ih (k + 1) f m (by omega) (by omega)
    rw [f_X7_needed_b12, if_neg (nlI (c := 2) 2 k rfl (by omega) (by omega))]
    unfold f_X7_needed_b41 f_X7_needed_b42 f_X7_needed_b59
    rw [ofRoot_c (x := 0) (r := k) 0 rfl (by omega) (by decide), ofRoot_c (x := 2) (r := k) 2 rfl (by omega) (by decide)]
    simp only [Option.bind_some, hih, i10, ↓reduceIte]
    show _ = some (lp (dmin (μ (q + 1)) w) 4 0 (lp (rmin (μ (q + 1))) n (k + 1) (rmin (μ (q + 1)) k m)))
    by_cases c2 : gR (μ (q + 1)) k 2 = 1
    · by_cases c3 : m ≤ gR (μ (q + 1)) k 0
      · rw [if_pos c2, if_pos c3, rmin_2 (Int32.not_lt.mpr c3)]
      · rw [if_pos c2, if_neg c3, rmin_y c2 (Int32.not_le.mp c3)]
    · rw [if_neg c2, rmin_1 c2]
theorem needed_n0 (w : Int32) : f_X7_needed_b12 q FU w (gR (μ (q + 1)) (cur (μ (q + 1))) 0) 0 μ = some (need (μ (q + 1)) w) := by
  have h := needed_b12 (q := q) (μ := μ) w 2 0 FU (gR (μ (q + 1)) (cur (μ (q + 1))) 0) rfl (by decide)
  rw [nI_0] at h
  unfold need
  exact h
theorem needed_n (w : Int32) : f_X7_needed q w μ = some (need (μ (q + 1)) w) := by
  unfold f_X7_needed
  rw [current_n, Option.bind_some, ofRoot_c (x := 0) 0 rfl cur_lt (by decide), Option.bind_some, needed_n0]
theorem canBeDug_n {b : Nat} (hb : b < 32) : f_X7_canBeDug q (nI b) μ = some (if dg (μ (q + 1)) b then 1 else 0) := by
  unfold f_X7_canBeDug f_X7_canBeDug_b28 f_X7_canBeDug_b29
  rw [of0 hb, of3 hb, needed_n]
  simp only [Option.bind_some]
  unfold dg
  by_cases c1 : gB (μ (q + 1)) b 0 = 2
  · by_cases c2 : need (μ (q + 1)) (-1) < gB (μ (q + 1)) b 3
    · rw [if_pos c1, if_pos c2, decide_eq_false (fun h => Int32.not_le.mpr c2 h), Bool.and_false]
      rfl
    · rw [if_pos c1, if_neg c2, decide_eq_true c1, decide_eq_true (Int32.not_lt.mp c2)]
      rfl
  · rw [if_neg c1, decide_eq_false c1]
    rfl
theorem sr_snoc {P : Nat → Bool} : ∀ (n k : Nat), sr P (n + 1) k = match sr P n k with
    | some j => some j
    | none => if P (k + n) then some (k + n) else none
  | 0, k => rfl
  | n + 1, k => by
    have e1 : sr P (n + 1 + 1) k = if P k then some k else sr P (n + 1) (k + 1) := rfl
    have e2 : sr P (n + 1) k = if P k then some k else sr P n (k + 1) := rfl
    rw [e1, e2, sr_snoc n (k + 1)]
    by_cases c : P k = true
    · rw [if_pos c, if_pos c]
    · rw [if_neg c, if_neg c, show k + 1 + n = k + (n + 1) by omega]
def fin2 (p : Nat → Int32) (n : Nat) (o : Option Nat) : Option Nat := match o with
  | some b => if wild p b then (match sr (wild p) n 0 with | some j => some j | none => some b) else some b
  | none => sr (wild p) n 0
theorem fin2_w {p : Nat → Int32} {n b : Nat} (h : wild p b = true) : fin2 p n (some b) = (match sr (wild p) n 0 with | some j => some j | none => some b) := by
  show (if wild p b then _ else _) = _
  rw [if_pos h]
theorem fin2_n {p : Nat → Int32} {n b : Nat} (h : wild p b = false) : fin2 p n (some b) = some b := by
  show (if wild p b then _ else _) = _
  rw [if_neg (by rw [h]; decide)]
theorem fin2_0 {p : Nat → Int32} {n : Nat} : fin2 p n none = sr (wild p) n 0 := rfl
theorem sr_sw {P : Nat → Bool} {n : Nat} (h : P n = true) : sr P (n + 1) 0 = (match sr P n 0 with | some j => some j | none => some n) := by
  rw [sr_snoc n 0, Nat.zero_add, h]
  rfl
theorem sr_sn {P : Nat → Bool} {n : Nat} (h : P n = false) : sr P (n + 1) 0 = sr P n 0 := by
  rw [sr_snoc n 0, Nat.zero_add, h]
  cases sr P n 0 <;> rfl
theorem dec1 (n : Nat) : nI n + (-1) = nI n - 1 := by
  rw [Int32.sub_eq_add_neg]
theorem nextNow_b62 : ∀ (n fu : Nat), n ≤ 32 → n < fu → ∀ (o : Option Nat), (∀ b, o = some b → b < 32) → f_X7_nextNow_b62 q fu (oI (-1) o) (nI n - 1) μ = some (oI (-1) (fin2 (μ (q + 1)) n o)) := by
  intro n
  induction n with
  | zero =>
    intro fu hn hf o ho
    obtain ⟨f, rfl⟩ : ∃ f, fu = f + 1 := ⟨fu - 1, by omega⟩
    rw [f_X7_nextNow_b62, if_pos (by decide)]
    unfold f_X7_nextNow_b100 fin2
    cases o with
    | none => rfl
    | some b =>
      show some (nI b) = some (oI (-1) (if wild (μ (q + 1)) b then some b else some b))
      rw [ite_self]
      rfl
  | succ n ih =>
    intro fu hn hf o ho
    obtain ⟨f, rfl⟩ : ∃ f, fu = f + 1 := ⟨fu - 1, by omega⟩
    have hb : n < 32 := by omega
    rw [nI_pred, f_X7_nextNow_b62, if_neg (nI_nz (by omega))]
    unfold f_X7_nextNow_b79 f_X7_nextNow_b93 f_X7_nextNow_b100
    rw [of0 hb]
    simp only [Option.bind_some]
    have h1 : f_X7_nextNow_b62 q f (nI n) (nI n + (-1)) μ = some (oI (-1) (fin2 (μ (q + 1)) n (some n))) := by
      rw [dec1]
      exact ih f (by omega) (by omega) (some n) (fun b h => by cases h; exact hb)
    have h2 : f_X7_nextNow_b62 q f (oI (-1) o) (nI n + (-1)) μ = some (oI (-1) (fin2 (μ (q + 1)) n o)) := by
      rw [dec1]
      exact ih f (by omega) (by omega) o ho
    cases o with
    | none =>
      rw [if_pos (show oI (-1) none < 0 by decide)]
      by_cases c : gB (μ (q + 1)) n 0 = 0
      · have cw : wild (μ (q + 1)) n = true := decide_eq_true c
        rw [if_pos c, h1, fin2_w cw, fin2_0, sr_sw cw]
      · have cw : wild (μ (q + 1)) n = false := decide_eq_false c
        rw [if_neg c, h2, fin2_0, fin2_0, sr_sn cw]
    | some g =>
      have hg := ho g rfl
      have eg : f_X7_of q (oI (-1) (some g)) 0 μ = some (gB (μ (q + 1)) g 0) := of0 hg
      rw [if_neg (show ¬ oI (-1) (some g) < 0 from nI_nz (by omega)), eg]
      simp only [Option.bind_some]
      by_cases cg : gB (μ (q + 1)) g 0 = 0
      · have wg : wild (μ (q + 1)) g = true := decide_eq_true cg
        rw [if_pos cg]
        by_cases c : gB (μ (q + 1)) n 0 = 0
        · have cw : wild (μ (q + 1)) n = true := decide_eq_true c
          rw [if_pos c, h1, fin2_w cw, fin2_w wg, sr_sw cw]
          cases sr (wild (μ (q + 1))) n 0 <;> rfl
        · have cw : wild (μ (q + 1)) n = false := decide_eq_false c
          rw [if_neg c, h2, fin2_w wg, fin2_w wg, sr_sn cw]
      · rw [if_neg cg, fin2_n (decide_eq_false cg)]
theorem nextNow_b4 : ∀ (n k fu : Nat) (o : Option Nat), k + n = 32 → n < fu → (∀ b, o = some b → b < 32) → f_X7_nextNow_b4 q fu (oI (-1) o) (nI k) μ = f_X7_nextNow_b62 q FU (oI (-1) (lp (ostep (μ (q + 1))) n k o)) 31 μ := by
  intro n
  induction n with
  | zero =>
    intro k fu o hk hf ho
    obtain ⟨f, rfl⟩ : ∃ f, fu = f + 1 := ⟨fu - 1, by omega⟩
    rw [f_X7_nextNow_b4, if_pos (lI (c := 32) 32 k rfl (by omega) (by omega))]
    rfl
  | succ n ih =>
    intro k fu o hk hf ho
    obtain ⟨f, rfl⟩ : ∃ f, fu = f + 1 := ⟨fu - 1, by omega⟩
    have hih : ∀ o : Option Nat, (∀ b, o = some b → b < 32) → f_X7_nextNow_b4 q f (oI (-1) o) (nI k + 1) μ = f_X7_nextNow_b62 q FU (oI (-1) (lp (ostep (μ (q + 1))) n (k + 1) o)) 31 μ := fun o h => by
      rw [nI_1]
      exact ih (k + 1) f o (by omega) (by omega) h
    have hk2 : k < 32 := by omega
    rw [f_X7_nextNow_b4, if_neg (nlI (c := 32) 32 k rfl (by omega) (by omega))]
    unfold f_X7_nextNow_b37 f_X7_nextNow_b41 f_X7_nextNow_b42 f_X7_nextNow_b52
    rw [canBeDug_n hk2, of3 hk2]
    simp only [Option.bind_some, ifz, i10, ↓reduceIte]
    show _ = f_X7_nextNow_b62 q FU (oI (-1) (lp (ostep (μ (q + 1))) n (k + 1) (ostep (μ (q + 1)) k o))) 31 μ
    have hk3 : f_X7_nextNow_b4 q f (nI k) (nI k + 1) μ = f_X7_nextNow_b62 q FU (oI (-1) (lp (ostep (μ (q + 1))) n (k + 1) (some k))) 31 μ := hih (some k) (fun b h => by cases h; exact hk2)
    by_cases c1 : dg (μ (q + 1)) k = true
    · rw [if_pos c1]
      cases o with
      | none =>
        rw [ostep_none c1, if_pos (show oI (-1) none < 0 by decide)]
        exact hk3
      | some g =>
        have hg := ho g rfl
        rw [if_neg (show ¬ oI (-1) (some g) < 0 from nI_nz (by omega)), show oI (-1) (some g) = nI g from rfl, of3 hg]
        simp only [Option.bind_some]
        by_cases c2 : gB (μ (q + 1)) g 3 ≤ gB (μ (q + 1)) k 3
        · rw [if_pos c2, ostep_n c1 (Int32.not_lt.mpr c2)]
          exact hih (some g) ho
        · rw [if_neg c2, ostep_y c1 (Int32.not_le.mp c2)]
          exact hk3
    · rw [if_neg c1, ostep_no (eq_false_of_ne_true c1)]
      exact hih o ho
theorem ostep_lt {p : Nat → Int32} : ∀ b, lp (ostep p) 32 0 none = some b → b < 32 ∧ dg p b = true := by
  have h := lp_inv (s := ostep p) (fun _ o => ∀ b, o = some b → b < 32 ∧ dg p b = true) 32 0 none (fun b h => by cases h) (fun j h1 h2 o ho b hb => by
    by_cases c : dg p j = true
    · cases o with
      | none =>
        rw [ostep_none c] at hb
        cases Option.some.inj hb
        exact ⟨by omega, c⟩
      | some g =>
        by_cases c2 : gB p j 3 < gB p g 3
        · rw [ostep_y c c2] at hb
          cases Option.some.inj hb
          exact ⟨by omega, c⟩
        · rw [ostep_n c c2] at hb
          exact ho b hb
    · rw [ostep_no (eq_false_of_ne_true c)] at hb
      exact ho b hb)
  exact h
theorem dg_nw {p : Nat → Int32} {b : Nat} (h : dg p b = true) : wild p b = false := by
  unfold dg at h
  have h1 := of_decide_eq_true (Bool.and_eq_true_iff.mp h).1
  unfold wild
  rw [h1]
  decide
theorem nextNow_n : f_X7_nextNow q μ = some (oI (-1) (nxt (μ (q + 1)))) := by
  have h := nextNow_b4 (q := q) (μ := μ) 32 0 FU none (by omega) (by decide) (fun b h => by cases h)
  unfold f_X7_nextNow
  rw [nI_0] at h
  refine (show f_X7_nextNow_b4 q FU (-1) 0 μ = _ from h).trans ?_
  refine (nextNow_b62 (q := q) (μ := μ) 32 FU (by omega) (by decide) _ (fun b hb => (ostep_lt b hb).1)).trans ?_
  congr 2
  unfold fin2 nxt
  cases e : lp (ostep (μ (q + 1))) 32 0 none with
  | none => rfl
  | some b =>
    simp only [dg_nw (ostep_lt b e).2]
    rfl
theorem manyToDig_b4 : ∀ (n k fu : Nat) (m : Int32), k + n = 32 → n < fu → f_X7_manyToDig_b4 q fu m (nI k) μ = some (lp (fun j (x : Int32) => x + (if dg (μ (q + 1)) j || wild (μ (q + 1)) j then 1 else 0)) n k m) := by
  intro n
  induction n with
  | zero =>
    intro k fu m hk hf
    obtain ⟨f, rfl⟩ : ∃ f, fu = f + 1 := ⟨fu - 1, by omega⟩
    rw [f_X7_manyToDig_b4, if_pos (lI (c := 32) 32 k rfl (by omega) (by omega))]
    rfl
  | succ n ih =>
    intro k fu m hk hf
    obtain ⟨f, rfl⟩ : ∃ f, fu = f + 1 := ⟨fu - 1, by omega⟩
    have hk2 : k < 32 := by omega
    have hih := fun m => ih (k + 1) f m (by omega) (by omega)
    rw [f_X7_manyToDig_b4, if_neg (nlI (c := 32) 32 k rfl (by omega) (by omega)), canBeDug_n hk2, of0 hk2]
    unfold f_X7_manyToDig_b28 f_X7_manyToDig_b33
    simp only [Option.bind_some, ifz, nI_1, hih]
    show _ = some (lp _ n (k + 1) (m + (if dg (μ (q + 1)) k || wild (μ (q + 1)) k then 1 else 0)))
    by_cases c1 : dg (μ (q + 1)) k = true
    · rw [if_pos c1, c1]
      rfl
    · rw [if_neg c1, eq_false_of_ne_true c1]
      by_cases c2 : gB (μ (q + 1)) k 0 = 0
      · rw [if_pos c2, show wild (μ (q + 1)) k = true from decide_eq_true c2]
        rfl
      · rw [if_neg c2, show wild (μ (q + 1)) k = false from decide_eq_false c2]
        rfl
theorem manyToDig_n : f_X7_manyToDig q μ = some (nI (many (μ (q + 1)))) := by
  unfold f_X7_manyToDig many
  rw [← ct_lp0]
  have h := manyToDig_b4 (q := q) (μ := μ) 32 0 FU 0 (by omega) (by decide)
  rw [nI_0] at h
  exact h
theorem freedToDig_b4 : ∀ (n k fu : Nat) (m : Int32), k + n = 32 → n < fu → f_X7_freedToDig_b4 q fu m (nI k) μ = some (lp (fun j (x : Int32) => x + (if dg (μ (q + 1)) j then 1 else 0)) n k m) := by
  intro n
  induction n with
  | zero =>
    intro k fu m hk hf
    obtain ⟨f, rfl⟩ : ∃ f, fu = f + 1 := ⟨fu - 1, by omega⟩
    rw [f_X7_freedToDig_b4, if_pos (lI (c := 32) 32 k rfl (by omega) (by omega))]
    rfl
  | succ n ih =>
    intro k fu m hk hf
    obtain ⟨f, rfl⟩ : ∃ f, fu = f + 1 := ⟨fu - 1, by omega⟩
    have hk2 : k < 32 := by omega
    have hih := fun m => ih (k + 1) f m (by omega) (by omega)
    rw [f_X7_freedToDig_b4, if_neg (nlI (c := 32) 32 k rfl (by omega) (by omega)), canBeDug_n hk2]
    unfold f_X7_freedToDig_b24
    simp only [Option.bind_some, ifz, nI_1, hih]
    show _ = some (lp _ n (k + 1) (m + (if dg (μ (q + 1)) k then 1 else 0)))
    by_cases c1 : dg (μ (q + 1)) k = true
    · rw [if_pos c1, if_pos c1]
    · rw [if_neg c1, if_neg c1]
theorem freedToDig_n : f_X7_freedToDig q μ = some (nI (nfree (μ (q + 1)))) := by
  unfold f_X7_freedToDig nfree
  rw [← ct_lp0]
  have h := freedToDig_b4 (q := q) (μ := μ) 32 0 FU 0 (by omega) (by decide)
  rw [nI_0] at h
  exact h
end PMODR
