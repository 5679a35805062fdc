/-! p28, PURE: what the public calls answer, over a page -/
section PZRD
variable {q : Nat} {μ μ' : Mem} {p p' p'' P Q : Nat → Int32} {d d' l b n k i j r f s m a w c x : Nat} {key val : Int32} {B : Int}
def HistC (μ : Mem) : Prop := ∃ c x, c ≤ 4 ∧ x < 4 ∧ μ 17 1 = nI c ∧ μ 17 2 = nI x
/-- the state of the law's object, by a page -/
def J28 (B : Int) (μ : Mem) (p : Nat → Int32) : Prop := RG 1 μ p ∧ INV B p ∧ WX p ∧ HistC μ
theorem J28.rg (h : J28 B μ p) : RG (0 + 1) μ p := h.1
theorem refuse00 : f_X6_refuse 0 = some () := rfl
theorem below_y {n : Nat} (N : Int32) (hk : k < n) (h31 : n < 2 ^ 31) (eN : N = nI n) : f_X6_isBelow (nI k) N = some 1 := by
  unfold f_X6_isBelow f_X6_isBelow_b14
  rw [if_neg (nI_nz (by omega)), eN, if_neg (nI_ge hk h31)]
  rfl
theorem part_y {n1 n2 : Nat} (N1 N2 : Int32) (h1 : r < n1) (h2 : w < n2) (h1' : n1 < 2 ^ 31) (h2' : n2 < 2 ^ 31) (e1 : N1 = nI n1) (e2 : N2 = nI n2) : f_X6_partFault (nI r) N1 (nI w) N2 = some 0 := by
  unfold f_X6_partFault f_X6_partFault_b23
  rw [below_y N1 h1 h1' e1, Option.bind_some, if_neg (by decide), below_y N2 h2 h2' e2, Option.bind_some, if_neg (by decide)]
theorem bed_e (h : J28 B μ p) (hb : b < 32) (hw : w < 6) : f_X6_bed 0 (nI b) (nI w) μ = some (tbed p b w) := by
  unfold f_X6_bed
  rw [part_y 32 6 (n1 := 32) (n2 := 6) hb hw (by decide) (by decide) rfl rfl, Option.bind_some, refuse00, Option.bind_some, h.rg.bedPart h.2.1.1 hb hw, Option.bind_some]
theorem root_e (h : J28 B μ p) (hr : r < 2) (hw : w < 4) : f_X6_root 0 (nI r) (nI w) μ = some (troot p r w) := by
  unfold f_X6_root
  rw [part_y 2 4 (n1 := 2) (n2 := 4) hr hw (by decide) (by decide) rfl rfl, Option.bind_some, refuse00, Option.bind_some, h.rg.rootPart h.2.1.1 hr hw, Option.bind_some]
theorem reader_e (h : J28 B μ p) (hr : r < 4) (hw : w < 3) : f_X6_reader 0 (nI r) (nI w) μ = some (trd p r w) := by
  unfold f_X6_reader
  rw [part_y 4 3 (n1 := 4) (n2 := 3) hr hw (by decide) (by decide) rfl rfl, Option.bind_some, refuse00, Option.bind_some, h.rg.readerPart h.2.1 hr hw, Option.bind_some]
theorem whole_e (h : J28 B μ p) (hw : w < 14) : f_X6_whole 0 (nI w) μ = some (twh p 0 w) := by
  unfold f_X6_whole f_X6_whole_b14 f_X6_whole_b41
  rw [below_y 15 (n := 15) (by omega) (by decide) rfl, Option.bind_some, if_neg (by decide), refuse00, Option.bind_some, if_neg (show ¬ nI w = (14 : Int32) from fun z => absurd (nI_inj (b := 14) (by omega) (by omega) z) (by omega)), h.rg.wholePart h.2.1 hw 0, Option.bind_some]
theorem key_y (hk : k < 100) : f_X6_keyFault (nI k) = some 0 := by
  unfold f_X6_keyFault f_X6_keyFault_b14
  rw [below_y 100 (n := 100) hk (by decide) rfl, Option.bind_some, if_neg (by decide)]
theorem get_e (h : J28 B μ p) (hk : k < 100) : f_X6_get 0 (nI k) μ = some (vby p (cd p) (nI k)) := by
  unfold f_X6_get
  rw [key_y hk, Option.bind_some, refuse00, Option.bind_some, h.rg.currentValue h.2.1, Option.bind_some]
theorem next_e (h : J28 B μ p) : f_X6_nextBed 0 μ = some (oI (-1000) (nxt p)) := by
  unfold f_X6_nextBed
  rw [h.rg.bedToDig h.2.1, Option.bind_some]
-- faults
theorem J28.m6 (h : J28 B μ p) : μ (0 + 1) 6 = p 466 := h.1.2.2.2.1
theorem drF_0 (h : J28 B μ p) (hk : k < 100) (c0 : p 466 = 0) : f_X4_draftedFault (0 + 1) (nI k) μ = some 3 := by
  unfold f_X4_draftedFault f_X4_draftedFault_b23
  rw [below_y 100 (n := 100) hk (by decide) rfl, Option.bind_some, if_neg (by decide), h.m6, if_pos c0]
theorem drF_1 (h : J28 B μ p) (hk : k < 100) (c1 : p 466 = 1) : f_X4_draftedFault (0 + 1) (nI k) μ = some 0 := by
  unfold f_X4_draftedFault f_X4_draftedFault_b23
  rw [below_y 100 (n := 100) hk (by decide) rfl, Option.bind_some, if_neg (by decide), h.m6, if_neg (by rw [c1]; decide)]
theorem drafted_e (h : J28 B μ p) (hk : k < 100) (c1 : p 466 = 1) : f_X6_drafted 0 (nI k) μ = some (vby p (drd p) (nI k)) := by
  unfold f_X6_drafted
  rw [drF_1 h hk c1, Option.bind_some, refuse00, Option.bind_some, h.rg.draftedValue h.2.1 c1, Option.bind_some]
theorem refuse33 : f_X6_refuse 3 = none := rfl
theorem refuse22 : f_X6_refuse 2 = none := rfl
theorem refuse11 : f_X6_refuse 1 = none := rfl
theorem Ldrafted_1 (h : J28 B μ p) (hk : k < 100) (c1 : p 466 = 1) : f_L_drafted 0 (nI k) μ = some (vby p (drd p) (nI k)) := by
  unfold f_L_drafted
  rw [drafted_e h hk c1]
theorem Ldrafted_0 (h : J28 B μ p) (hk : k < 100) (c0 : p 466 = 0) : f_L_drafted 0 (nI k) μ = some (-2902) := by
  unfold f_L_drafted f_X6_drafted f_X6_drafted_t
  rw [drF_0 h hk c0, Option.bind_some, refuse33]
  rfl
/-- what drafted answers, NONE STATE told -/
def dft (p : Nat → Int32) (key : Int32) : Int32 := if p 466 = 1 then vby p (drd p) key else -2902
theorem Ldrafted (h : J28 B μ p) (hk : k < 100) : f_L_drafted 0 (nI k) μ = some (dft p (nI k)) := by
  rcases h.2.1.2.2.2.2.1 with c | c
  · rw [Ldrafted_0 h hk c]
    unfold dft
    rw [if_neg (by rw [c]; decide)]
  · rw [Ldrafted_1 h hk c]
    unfold dft
    rw [if_pos c]
def hnd (p : Nat → Int32) (key : Int32) : Int32 := match bofn p key with
  | none => 1
  | some n => if many p < n then 2 else 0
theorem reason_e (h : J28 B μ p) (hk : k < 100) (c1 : p 466 = 1) : f_X6_reason 0 (nI k) μ = some (hnd p (nI k)) := by
  unfold f_X6_reason
  rw [drF_1 h hk c1, Option.bind_some, refuse00, Option.bind_some, h.rg.hindrance h.2.1 c1, Option.bind_some]
  rfl
theorem Lreason (h : J28 B μ p) (hk : k < 100) : f_L_reason 0 (nI k) μ = some (if p 466 = 1 then hnd p (nI k) else -2902) := by
  rcases h.2.1.2.2.2.2.1 with c | c
  · unfold f_L_reason f_X6_reason f_X6_reason_t
    rw [drF_0 h hk c, Option.bind_some, refuse33, if_neg (by rw [c]; decide)]
    rfl
  · unfold f_L_reason
    rw [reason_e h hk c, if_pos c]
theorem bedsFor_e (h : J28 B μ p) (hk : k < 100) (c1 : p 466 = 1) : f_X6_bedsFor 0 (nI k) μ = some (oI (-1000) (bofn p (nI k))) := by
  unfold f_X6_bedsFor
  rw [drF_1 h hk c1, Option.bind_some, refuse00, Option.bind_some, h.rg.digsToPut h.2.1 c1, Option.bind_some]
theorem opF (h : J28 B μ p) (hr : r < 4) : f_X4_openReaderFault (0 + 1) (nI r) μ = some (if gD p r 0 = 1 then 0 else 3) := by
  unfold f_X4_openReaderFault f_X4_openReaderFault_b23
  rw [below_y 4 (n := 4) hr (by decide) rfl, Option.bind_some, if_neg (by decide), h.rg.isOpen h.2.1.1 hr, Option.bind_some]
  rcases (h.2.1.1.2.2 r hr).1 with c | c <;> rw [c] <;> rfl
def chg (p : Nat → Int32) (r : Nat) : Int32 := lp (fun j (x : Int32) => x + (if vby p (cd p) (nI j) = vby p (rdp p r) (nI j) then 0 else 1)) 100 0 0
theorem changed_e (h : J28 B μ p) (hr : r < 4) (ho : gD p r 0 = 1) : f_X6_changedSince 0 (nI r) μ = some (chg p r) := by
  unfold f_X6_changedSince f_X4_differencesTo
  have e := h.rg.diff_b4 h.2.1 hr ho 100 0 FU 0 (by omega) (by decide)
  rw [nI_0] at e
  rw [opF h hr, if_pos ho, Option.bind_some, refuse00, Option.bind_some, e, Option.bind_some]
  rfl
theorem lp_zero {f : Nat → Int32} : ∀ (n k : Nat) (a : Int32), (∀ j, k ≤ j → j < k + n → f j = 0) → lp (fun j (x : Int32) => x + f j) n k a = a
  | 0, _, _, _ => rfl
  | n + 1, k, a, h => by
    show lp (fun j (x : Int32) => x + f j) n (k + 1) (a + f k) = a
    rw [h k (Nat.le_refl _) (by omega), Int32.add_zero]
    exact lp_zero n (k + 1) a (fun j h1 h2 => h j (by omega) (by omega))
theorem chg_0 (h : ∀ j, j < 100 → vby p (cd p) (nI j) = vby p (rdp p r) (nI j)) : chg p r = 0 := lp_zero 100 0 0 (fun j _ h2 => if_pos (h j (by omega)))
theorem Lsince_0 (h : J28 B μ p) (hr : r < 4) (ho : ¬ gD p r 0 = 1) : f_L_since 0 (nI r) μ = some (-2902) := by
  unfold f_L_since f_X6_changedSince f_X6_changedSince_t
  rw [opF h hr, if_neg ho, Option.bind_some, refuse33]
  rfl
theorem without_e (h : J28 B μ p) (hr : r < 4) (ho : gD p r 0 = 1) : f_X6_neededWithout 0 (nI r) μ = some (need p (nI r)) := by
  unfold f_X6_neededWithout
  rw [opF h hr, if_pos ho, Option.bind_some, refuse00, Option.bind_some, h.rg.neededBut h.2.1.1 (nI r) (nI r) (fun _ _ => Iff.rfl), Option.bind_some]
theorem rdF (h : J28 B μ p) (hr : r < 4) (hk : k < 100) : f_X4_readFault (0 + 1) (nI r) (nI k) μ = some (if gD p r 0 = 1 then 0 else 3) := by
  unfold f_X4_readFault f_X4_readFault_b34
  rw [below_y 4 (n := 4) hr (by decide) rfl, Option.bind_some, if_neg (by decide), below_y 100 (n := 100) hk (by decide) rfl, Option.bind_some, if_neg (by decide), h.rg.isOpen h.2.1.1 hr, Option.bind_some]
  rcases (h.2.1.1.2.2 r hr).1 with c | c <;> rw [c] <;> rfl
def rdv (p : Nat → Int32) (r : Nat) (key : Int32) : Int32 := if gD p r 0 = 1 then vby p (rdp p r) key else -2902
theorem Lread (h : J28 B μ p) (hr : r < 4) (hk : k < 100) : f_L_read 0 (nI r) (nI k) μ = some (rdv p r (nI k)) := by
  unfold rdv
  by_cases ho : gD p r 0 = 1
  · unfold f_L_read f_X6_read
    rw [rdF h hr hk, if_pos ho, Option.bind_some, refuse00, Option.bind_some, h.rg.readerValue h.2.1 hr ho, Option.bind_some, if_pos ho]
  · unfold f_L_read f_X6_read f_X6_read_t
    rw [rdF h hr hk, if_neg ho, Option.bind_some, refuse33, if_neg ho]
    rfl
-- the numbers by their own names
theorem bed0 (h : J28 B μ p) (hb : b < 32) : f_X6_bed 0 (nI b) 0 μ = some (gB p b 0) := bed_e (w := 0) h hb (by decide)
theorem bed1 (h : J28 B μ p) (hb : b < 32) : f_X6_bed 0 (nI b) 1 μ = some (if gB p b 0 = 0 then -1000 else gB p b 1) := bed_e (w := 1) h hb (by decide)
theorem bed2 (h : J28 B μ p) (hb : b < 32) : f_X6_bed 0 (nI b) 2 μ = some (if gB p b 0 = 0 then -1000 else gB p b 2) := bed_e (w := 2) h hb (by decide)
theorem bed3 (h : J28 B μ p) (hb : b < 32) : f_X6_bed 0 (nI b) 3 μ = some (if gB p b 0 = 2 then gB p b 3 else -1000) := bed_e (w := 3) h hb (by decide)
theorem bed4 (h : J28 B μ p) (hb : b < 32) : f_X6_bed 0 (nI b) 4 μ = some (if dg p b then 1 else 0) := bed_e (w := 4) h hb (by decide)
theorem bed5 (h : J28 B μ p) (hb : b < 32) : f_X6_bed 0 (nI b) 5 μ = some (gB p b 4) := bed_e (w := 5) h hb (by decide)
theorem wh0 (h : J28 B μ p) : f_X6_whole 0 0 μ = some (tst p 0) := whole_e (w := 0) h (by decide)
theorem wh1 (h : J28 B μ p) : f_X6_whole 0 1 μ = some (tst p 1) := whole_e (w := 1) h (by decide)
theorem wh2 (h : J28 B μ p) : f_X6_whole 0 2 μ = some (tst p 2) := whole_e (w := 2) h (by decide)
theorem wh3 (h : J28 B μ p) : f_X6_whole 0 3 μ = some (nI (nfree p)) := whole_e (w := 3) h (by decide)
theorem wh4 (h : J28 B μ p) : f_X6_whole 0 4 μ = some (need p (-1)) := whole_e (w := 4) h (by decide)
theorem wh5 (h : J28 B μ p) : f_X6_whole 0 5 μ = some (nI (ens p (cd p))) := whole_e (w := 5) h (by decide)
theorem wh6 (h : J28 B μ p) : f_X6_whole 0 6 μ = some (gB p (cd p) 2) := whole_e (w := 6) h (by decide)
theorem wh7 (h : J28 B μ p) : f_X6_whole 0 7 μ = some (lp (fun j (x : Int32) => x + gD p j 0) 4 0 0) := whole_e (w := 7) h (by decide)
theorem wh8 (h : J28 B μ p) : f_X6_whole 0 8 μ = some (p 466) := whole_e (w := 8) h (by decide)
theorem wh9 (h : J28 B μ p) : f_X6_whole 0 9 μ = some (nI (nNew p)) := whole_e (w := 9) h (by decide)
theorem wh10 (h : J28 B μ p) : f_X6_whole 0 10 μ = some (nI (nLeft p)) := whole_e (w := 10) h (by decide)
theorem wh11 (h : J28 B μ p) : f_X6_whole 0 11 μ = some (p 468) := whole_e (w := 11) h (by decide)
theorem wh12 (h : J28 B μ p) : f_X6_whole 0 12 μ = some (p 469) := whole_e (w := 12) h (by decide)
theorem wh13 (h : J28 B μ p) : f_X6_whole 0 13 μ = some (dsum p (cd p) (nB p (cd p) 2) 0) := whole_e (w := 13) h (by decide)
theorem rt0 (h : J28 B μ p) (hr : r < 2) : f_X6_root 0 (nI r) 0 μ = some (gR p r 0) := root_e (w := 0) h hr (by decide)
theorem rt1 (h : J28 B μ p) (hr : r < 2) : f_X6_root 0 (nI r) 1 μ = some (if gR p r 1 < 0 then -1000 else gR p r 1) := root_e (w := 1) h hr (by decide)
theorem rt2 (h : J28 B μ p) (hr : r < 2) : f_X6_root 0 (nI r) 2 μ = some (gR p r 2) := root_e (w := 2) h hr (by decide)
theorem rt3 (h : J28 B μ p) (hr : r < 2) : f_X6_root 0 (nI r) 3 μ = some (if r = cur p then 1 else 0) := root_e (w := 3) h hr (by decide)
theorem rd0 (h : J28 B μ p) (hr : r < 4) : f_X6_reader 0 (nI r) 0 μ = some (if gD p r 0 = 1 then gD p r 1 else -1000) := reader_e (w := 0) h hr (by decide)
theorem rd1 (h : J28 B μ p) (hr : r < 4) : f_X6_reader 0 (nI r) 1 μ = some (if gD p r 0 = 1 then gD p r 2 else -1000) := reader_e (w := 1) h hr (by decide)
theorem rd2 (h : J28 B μ p) (hr : r < 4) : f_X6_reader 0 (nI r) 2 μ = some (if gD p r 0 = 1 then nI (ens p (rdp p r)) else -1000) := reader_e (w := 2) h hr (by decide)
/-- the current root's number -/
theorem now_e (h : J28 B μ p) : f_X6_root 0 1 3 μ = some (nI (cur p)) := by
  refine (rt3 (r := 1) h (by decide)).trans ?_
  have hc := cur_lt (p := p)
  have hcase : cur p = 0 ∨ cur p = 1 := by omega
  rcases hcase with e | e <;> rw [e] <;> rfl
end PZRD
