/-! PURE, drafts that end: beds dropped and freed, on both sides -/
section PDRP
variable {q g : Nat} {m μ μ' : Mem} {p p' P Q : Nat → Int32} {l l' b b' w' n s k d d' f pl j i : Nat} {key val kind x w c : Int32} {B : Int}
theorem fillRow_b2 {q0 n0 : Nat} : ∀ (n k fu : Nat) (μ : Mem), k + n = n0 → n < fu → n0 < 2 ^ 31 → f_X6_fillRow_b2 q0 n0 fu x (nI k) μ = some (rst μ q0 (fun i => if k ≤ i ∧ i < n0 then x else μ q0 i)) := by
  intro n
  induction n with
  | zero =>
    intro k fu μ hk hf hn
    obtain ⟨fu, rfl⟩ : ∃ z, fu = z + 1 := ⟨fu - 1, by omega⟩
    rw [f_X6_fillRow_b2, if_pos (nI_le (by omega) (by omega))]
    have e : (fun i => if k ≤ i ∧ i < n0 then x else μ q0 i) = μ q0 := by
      funext i
      rw [if_neg (by omega)]
    rw [e, rst_self]
  | succ n ih =>
    intro k fu μ hk hf hn
    obtain ⟨fu, rfl⟩ : ∃ z, fu = z + 1 := ⟨fu - 1, by omega⟩
    rw [f_X6_fillRow_b2, if_neg (nI_ge (by omega) (by omega)), wr_n (by omega) hn, Option.bind_some, nI_1, ih (k + 1) fu _ (by omega) (by omega) hn, mst_rst, rst_rst, rst_eq]
    congr 2
    funext i
    by_cases c1 : k + 1 ≤ i ∧ i < n0
    · rw [if_pos c1, if_pos (by omega)]
    · rw [if_neg c1]
      by_cases c2 : i = k
      · rw [c2, upd_eq, if_pos (by omega)]
      · rw [upd_ne c2, if_neg (by omega)]
theorem fillRow_n {q0 n0 : Nat} (h : n0 < 4096) : f_X6_fillRow q0 n0 x μ = some (rst μ q0 (fun i => if i < n0 then x else μ q0 i)) := by
  have e := fillRow_b2 (x := x) (q0 := q0) (n0 := n0) n0 0 FU μ (by omega) (by unfold FU; omega) (by omega)
  rw [nI_0] at e
  unfold f_X6_fillRow
  rw [e]
  congr 2
  funext i
  by_cases c1 : i < n0
  · rw [if_pos c1, if_pos (by omega)]
  · rw [if_neg c1, if_neg (by omega)]
/-- rows of states, freeings and flags are rewritten; kinds, sizes and contents stay -/
theorem RB.rows (h : RB q μ Q) (ro : ∀ z, q < z → z < q + 10 → z ≠ q + 1 → z ≠ q + 4 → z ≠ q + 5 → z ≠ q + 6 → μ' z = μ z) (e : ∀ b w, b < 32 → w < 14 → (w = 1 ∨ w = 2 ∨ 6 ≤ w) → gB P b w = gB Q b w) (e0 : ∀ b, b < 32 → (gB P b 0 = 0 ↔ gB Q b 0 = 0)) (r : ∀ b, b < 32 → μ' (q + 1) b = gB P b 0 ∧ μ' (q + 4) b = (if gB P b 0 = 2 then gB P b 3 else -1000) ∧ μ' (q + 5) b = gB P b 4 ∧ μ' (q + 6) b = gB P b 5) : RB q μ' P := by
  refine ⟨fun b hb => ?_, fun b hb h0 h1 i hi h4 => ?_, fun b hb h0 h1 i hi h4 => ?_⟩
  · obtain ⟨r1, r2, r3, r4⟩ := r b hb
    have eb := h.1 b hb
    refine ⟨r1, ?_, ?_, r2, r3, r4⟩
    · rw [ro (q + 2) (by omega) (by omega) (by omega) (by omega) (by omega) (by omega), eb.2.1, e b 1 hb (by decide) (Or.inl rfl)]
      by_cases z : gB Q b 0 = 0
      · rw [if_pos z, if_pos ((e0 b hb).mpr z)]
      · rw [if_neg z, if_neg (fun y => z ((e0 b hb).mp y))]
    · rw [ro (q + 3) (by omega) (by omega) (by omega) (by omega) (by omega) (by omega), eb.2.2.1, e b 2 hb (by decide) (Or.inr (Or.inl rfl))]
      by_cases z : gB Q b 0 = 0
      · rw [if_pos z, if_pos ((e0 b hb).mpr z)]
      · rw [if_neg z, if_neg (fun y => z ((e0 b hb).mp y))]
  · rw [e b 1 hb (by decide) (Or.inl rfl)] at h1
    rw [nB_of (e b 2 hb (by decide) (Or.inr (Or.inl rfl)))] at hi
    rw [e b _ hb (by omega) (by omega), e b _ hb (by omega) (by omega), ro (q + 7) (by omega) (by omega) (by omega) (by omega) (by omega) (by omega), ro (q + 8) (by omega) (by omega) (by omega) (by omega) (by omega) (by omega)]
    exact h.2.1 b hb (fun y => h0 ((e0 b hb).mpr y)) h1 i hi h4
  · rw [e b 1 hb (by decide) (Or.inl rfl)] at h1
    rw [nB_of (e b 2 hb (by decide) (Or.inr (Or.inl rfl)))] at hi
    rw [e b _ hb (by omega) (by omega), ro (q + 9) (by omega) (by omega) (by omega) (by omega) (by omega) (by omega)]
    exact h.2.2 b hb (fun y => h0 ((e0 b hb).mpr y)) h1 i hi h4
theorem RB.fr (h : RB q μ p) (e : ∀ z, q < z → z < q + 10 → μ' z = μ z) : RB q μ' p := by
  refine ⟨fun b hb => ?_, fun b hb h0 h1 i hi h4 => ?_, fun b hb h0 h1 i hi h4 => ?_⟩
  · rw [e (q + 1) (by omega) (by omega), e (q + 2) (by omega) (by omega), e (q + 3) (by omega) (by omega), e (q + 4) (by omega) (by omega), e (q + 5) (by omega) (by omega), e (q + 6) (by omega) (by omega)]
    exact h.1 b hb
  · rw [e (q + 7) (by omega) (by omega), e (q + 8) (by omega) (by omega)]
    exact h.2.1 b hb h0 h1 i hi h4
  · rw [e (q + 9) (by omega) (by omega)]
    exact h.2.2 b hb h0 h1 i hi h4
-- the drop of a draft: what becomes of a page
def DropOf (p P : Nat → Int32) : Prop := ∀ b w, b < 32 → w < 14 → gB P b w = if gB p b 4 = 1 then 0 else if w = 5 then 0 else gB p b w
def nNew (p : Nat → Int32) : Nat := ct (fun b => decide (gB p b 4 = 1)) 32
def nLeft (p : Nat → Int32) : Nat := ct (fun b => decide (gB p b 5 = 1)) 32
def dC (n k : Nat) (p : Nat → Int32) : Nat → Int32 := lp (fun j P => if gB P j 4 = 1 then wB P j else P) n k p
theorem dC_gB : ∀ (n k : Nat) (p : Nat → Int32), k + n ≤ 32 → ∀ b w, w < 14 → gB (dC n k p) b w = if k ≤ b ∧ b < k + n ∧ gB p b 4 = 1 then 0 else gB p b w
  | 0, k, p, _, b, w, _ => (if_neg (by omega)).symm
  | n + 1, k, p, h, b, w, hw => by
    have e : dC (n + 1) k p = dC n (k + 1) (if gB p k 4 = 1 then wB p k else p) := rfl
    rw [e, dC_gB n (k + 1) _ (by omega) b w hw]
    by_cases c : gB p k 4 = 1
    · rw [if_pos c, wB_gB hw, wB_gB (by decide)]
      by_cases cb : b = k
      · rw [cb, if_pos rfl, if_pos rfl, if_neg (by omega), if_pos ⟨Nat.le_refl _, by omega, c⟩]
      · rw [if_neg cb, if_neg cb]
        by_cases c2 : k + 1 ≤ b ∧ b < k + 1 + n ∧ gB p b 4 = 1
        · rw [if_pos c2, if_pos ⟨by omega, by omega, c2.2.2⟩]
        · rw [if_neg c2, if_neg (fun z => c2 ⟨by omega, by omega, z.2.2⟩)]
    · rw [if_neg c]
      by_cases c2 : k + 1 ≤ b ∧ b < k + 1 + n ∧ gB p b 4 = 1
      · rw [if_pos c2, if_pos ⟨by omega, by omega, c2.2.2⟩]
      · rw [if_neg c2, if_neg (fun z => c2 ⟨by
          by_cases cb : b = k
          · rw [cb] at z
            exact absurd z.2.2 c
          · omega, by omega, z.2.2⟩)]
theorem RB.dropFresh_b4 : ∀ (n k fu : Nat) (a : Int32) (μ : Mem) (Q : Nat → Int32), k + n = 32 → n < fu → RB q μ Q → (∀ b, b < 32 → gB Q b 4 = 1 → gB Q b 5 = 0) → ∃ μ', f_X1_dropFresh_b4 q fu a (nI k) μ = some (lp (fun j (x : Int32) => x + (if decide (gB Q j 4 = 1) then 1 else 0)) n k a, rst μ' (q + 6) (fun i => if i < 32 then 0 else μ' (q + 6) i)) ∧ RB q μ' (dC n k Q) ∧ Fr q μ μ' := by
  intro n
  induction n with
  | zero =>
    intro k fu a μ Q hk hf h h5
    obtain ⟨fu, rfl⟩ : ∃ z, fu = z + 1 := ⟨fu - 1, by omega⟩
    rw [f_X1_dropFresh_b4, if_pos (lI (c := 32) 32 k rfl (by omega) (by omega)), fillRow_n (by decide), Option.bind_some]
    exact ⟨μ, rfl, h, Fr.rf⟩
  | succ n ih =>
    intro k fu a μ Q hk hf h h5
    obtain ⟨fu, rfl⟩ : ∃ z, fu = z + 1 := ⟨fu - 1, by omega⟩
    have hk2 : k < 32 := by omega
    have e4 : μ (q + 5) k = gB Q k 4 := (h.1 k hk2).2.2.2.2.1
    rw [f_X1_dropFresh_b4, if_neg (nlI (c := 32) 32 k rfl (by omega) (by omega)), rd_n hk2 (by decide), Option.bind_some, e4]
    unfold f_X1_dropFresh_b28
    have el : ∀ z : Int32, (a + (if decide (gB Q k 4 = 1) then 1 else 0)) = z → lp (fun j (x : Int32) => x + (if decide (gB Q j 4 = 1) then 1 else 0)) (n + 1) k a = lp (fun j (x : Int32) => x + (if decide (gB Q j 4 = 1) then 1 else 0)) n (k + 1) z := fun z hz => by
      rw [← hz]
      rfl
    have ed : dC (n + 1) k Q = dC n (k + 1) (if gB Q k 4 = 1 then wB Q k else Q) := rfl
    by_cases c : gB Q k 4 = 1
    · obtain ⟨μ1, a1, a2, a3⟩ := h.makeWild hk2 (h5 k hk2 c)
      rw [if_pos c, a1, Option.bind_some, nI_1]
      obtain ⟨μ2, b1, b2, b3⟩ := ih (k + 1) fu (a + 1) μ1 (wB Q k) (by omega) (by omega) a2 (fun b hb hz => by
        rw [wB_gB (by decide)] at hz ⊢
        by_cases cb : b = k
        · rw [if_pos cb]
        · rw [if_neg cb] at hz ⊢
          exact h5 b hb hz)
      refine ⟨μ2, ?_, by rw [ed, if_pos c]; exact b2, a3.tr b3⟩
      rw [b1, el (a + 1) (by rw [if_pos (decide_eq_true c)])]
      congr 2
      refine lp_cg _ _ _ (fun j h1 h2 x => ?_)
      rw [wB_gB (by decide), if_neg (show ¬ j = k by omega)]
    · rw [if_neg c, nI_1]
      obtain ⟨μ2, b1, b2, b3⟩ := ih (k + 1) fu a μ Q (by omega) (by omega) h h5
      refine ⟨μ2, ?_, by rw [ed, if_neg c]; exact b2, b3⟩
      rw [b1, el a (by rw [if_neg (by rw [decide_eq_false c]; decide)]; exact Int32.add_zero _)]
theorem RB.dropFresh (h : RB q μ p) (h5 : ∀ b, b < 32 → gB p b 4 = 1 → gB p b 5 = 0) (hz : ∀ b, b < 32 → gB p b 4 = 0 ∨ gB p b 4 = 1) (hP : DropOf p P) : ∃ μ', f_X1_dropFresh q μ = some (nI (nNew p), μ') ∧ RB q μ' P ∧ Fr q μ μ' := by
  obtain ⟨μ1, a1, a2, a3⟩ := RB.dropFresh_b4 32 0 FU 0 μ p (by omega) (by decide) h h5
  rw [nI_0] at a1
  have hd : ∀ b w, b < 32 → w < 14 → gB (dC 32 0 p) b w = if gB p b 4 = 1 then 0 else gB p b w := fun b w hb hw => by
    rw [dC_gB 32 0 p (by omega) b w hw]
    by_cases c : gB p b 4 = 1
    · rw [if_pos c, if_pos ⟨by omega, by omega, c⟩]
    · rw [if_neg c, if_neg (fun z => c z.2.2)]
  have he : ∀ b w, b < 32 → w < 14 → w ≠ 5 → gB P b w = gB (dC 32 0 p) b w := fun b w hb hw h5 => by
    rw [hP b w hb hw, hd b w hb hw, if_neg h5]
  refine ⟨rst μ1 (q + 6) (fun i => if i < 32 then 0 else μ1 (q + 6) i), ?_, a2.rows (fun z z1 z2 z3 z4 z5 z6 => rst_ne z6) (fun b w hb hw hc => he b w hb hw (by omega)) (fun b hb => by rw [he b 0 hb (by decide) (by decide)]) (fun b hb => ?_), a3.tr (fun z hz => rst_ne (by omega))⟩
  · unfold f_X1_dropFresh
    rw [a1]
    congr 2
    unfold nNew
    rw [← ct_lp0]
  · have eb := a2.1 b hb
    rw [rst_ne (by omega), rst_ne (by omega), rst_ne (by omega), rst_eq, if_pos hb, he b 0 hb (by decide) (by decide), he b 3 hb (by decide) (by decide), he b 4 hb (by decide) (by decide)]
    refine ⟨eb.1, eb.2.2.2.1, eb.2.2.2.2.1, ?_⟩
    rw [hP b 5 hb (by decide)]
    split
    · rfl
    · rw [if_pos rfl]
-- the model's drop
def dM (n k : Nat) (p : Nat → Int32) : Nat → Int32 := lp (fun j P => if gB P j 4 = 1 then wB (sB P j 5 0) j else sB P j 5 0) n k p
def dMe (p : Nat → Int32) : Nat → Int32 := sS (sS (dM 32 0 p) 466 0) 467 (-1)
theorem dM_gB : ∀ (n k : Nat) (p : Nat → Int32), k + n ≤ 32 → ∀ b w, w < 14 → gB (dM n k p) b w = if k ≤ b ∧ b < k + n then (if gB p b 4 = 1 then 0 else if w = 5 then 0 else gB p b w) else gB p b w
  | 0, k, p, _, b, w, _ => (if_neg (by omega)).symm
  | n + 1, k, p, h, b, w, hw => by
    have e : dM (n + 1) k p = dM n (k + 1) (if gB p k 4 = 1 then wB (sB p k 5 0) k else sB p k 5 0) := rfl
    have es : ∀ b w, w < 14 → gB (if gB p k 4 = 1 then wB (sB p k 5 0) k else sB p k 5 0) b w = if b = k then (if gB p k 4 = 1 then 0 else if w = 5 then 0 else gB p k w) else gB p b w := fun b w hw => by
      by_cases c : gB p k 4 = 1
      · rw [if_pos c, if_pos c, wB_gB hw, gB_sB (by decide) hw]
        by_cases cb : b = k
        · rw [if_pos cb, if_pos cb]
        · rw [if_neg cb, if_neg cb, if_neg (fun z => cb z.1)]
      · rw [if_neg c, if_neg c, gB_sB (by decide) hw]
        by_cases cb : b = k
        · rw [if_pos cb, cb]
          by_cases c5 : w = 5
          · rw [if_pos ⟨rfl, c5⟩, if_pos c5]
          · rw [if_neg (fun z => c5 z.2), if_neg c5]
        · rw [if_neg cb, if_neg (fun z => cb z.1)]
    rw [e, dM_gB n (k + 1) _ (by omega) b w hw, es b 4 (by decide), es b w hw]
    by_cases cb : b = k
    · rw [if_neg (show ¬ (k + 1 ≤ b ∧ b < k + 1 + n) by omega), if_pos cb, if_pos (show k ≤ b ∧ b < k + (n + 1) by omega), cb]
    · rw [if_neg cb, if_neg cb]
      by_cases c2 : k + 1 ≤ b ∧ b < k + 1 + n
      · rw [if_pos c2, if_pos (show k ≤ b ∧ b < k + (n + 1) by omega)]
      · rw [if_neg c2, if_neg (show ¬ (k ≤ b ∧ b < k + (n + 1)) by omega)]
theorem dM_same : ∀ (n k : Nat) (p : Nat → Int32), k + n ≤ 32 → Same p (dM n k p)
  | 0, _, _, _ => Same.rf
  | n + 1, k, p, h => by
    have e : dM (n + 1) k p = dM n (k + 1) (if gB p k 4 = 1 then wB (sB p k 5 0) k else sB p k 5 0) := rfl
    rw [e]
    refine Same.tr ?_ (dM_same n (k + 1) _ (by omega))
    split
    · exact (Same.sB (by omega) (by decide)).tr (wB_same (by omega))
    · exact Same.sB (by omega) (by decide)
theorem dMe_drop : DropOf p (dMe p) := fun b w hb hw => by
  unfold dMe
  rw [gB_sS (by decide) hb hw, gB_sS (by decide) hb hw, dM_gB 32 0 p (by omega) b w hw, if_pos (by omega)]
theorem dMe_hi (h : 448 ≤ i) : dMe p i = if i = 467 then -1 else if i = 466 then 0 else p i := by
  show (if i = 467 then -1 else if i = 466 then 0 else dM 32 0 p i) = _
  rw [dM_same 32 0 p (by omega) i h]
theorem drops_b4 : ∀ (n k fu : Nat) (a : Int32) (p : Nat → Int32), k + n = 32 → n < fu → f_X7_drops_b4 q fu a (nI k) (rst m (q + 1) p) = some (lp (fun j (x : Int32) => x + (if decide (gB p j 4 = 1) then 1 else 0)) n k a, rst m (q + 1) (sS (sS (dM n k p) 466 0) 467 (-1))) := by
  intro n
  induction n with
  | zero =>
    intro k fu a p hk hf
    obtain ⟨fu, rfl⟩ : ∃ z, fu = z + 1 := ⟨fu - 1, by omega⟩
    rw [f_X7_drops_b4, if_pos (lI (c := 32) 32 k rfl (by omega) (by omega)), show (466 : Int32) = nI 466 from rfl, sS_r (by decide), Option.bind_some, show (467 : Int32) = nI 467 from rfl, sS_r (by decide), Option.bind_some]
    rfl
  | succ n ih =>
    intro k fu a p hk hf
    obtain ⟨fu, rfl⟩ : ∃ z, fu = z + 1 := ⟨fu - 1, by omega⟩
    have hk2 : k < 32 := by omega
    have e4 : gB (sB p k 5 0) k 4 = gB p k 4 := by rw [gB_sB (by decide) (by decide), if_neg (by omega)]
    rw [f_X7_drops_b4, if_neg (nlI (c := 32) 32 k rfl (by omega) (by omega)), lay_rc (y := 5) 5 rfl hk2 (by decide), Option.bind_some, of4 hk2, rst_eq, Option.bind_some, e4, becomesWild_r hk2, Option.bind_some]
    unfold f_X7_drops_b35
    rw [nI_1, ih (k + 1) fu _ _ (by omega) (by omega), ih (k + 1) fu _ _ (by omega) (by omega)]
    have ed : dM (n + 1) k p = dM n (k + 1) (if gB p k 4 = 1 then wB (sB p k 5 0) k else sB p k 5 0) := rfl
    have el : lp (fun j (x : Int32) => x + (if decide (gB p j 4 = 1) then 1 else 0)) (n + 1) k a = lp (fun j (x : Int32) => x + (if decide (gB p j 4 = 1) then 1 else 0)) n (k + 1) (a + (if decide (gB p k 4 = 1) then 1 else 0)) := rfl
    rw [ed, el]
    by_cases c : gB p k 4 = 1
    · rw [if_pos c, if_pos c, if_pos (decide_eq_true c)]
      congr 2
      refine lp_cg _ _ _ (fun j h1 h2 x => ?_)
      rw [wB_gB (by decide), if_neg (show ¬ j = k by omega), gB_sB (by decide) (by decide), if_neg (show ¬ (j = k ∧ 4 = 5) by omega)]
    · rw [if_neg c, if_neg c, if_neg (by rw [decide_eq_false c]; decide), Int32.add_zero]
      congr 2
      refine lp_cg _ _ _ (fun j h1 h2 x => ?_)
      rw [gB_sB (by decide) (by decide), if_neg (show ¬ (j = k ∧ 4 = 5) by omega)]
theorem drops_r : f_X7_drops q (rst m (q + 1) p) = some (nI (nNew p), rst m (q + 1) (dMe p)) := by
  have e := drops_b4 (q := q) (m := m) 32 0 FU 0 p (by omega) (by decide)
  rw [nI_0, ct_lp0] at e
  exact e
-- freeing
def FreeOf (c : Int32) (p P : Nat → Int32) : Prop := ∀ b w, b < 32 → w < 14 → gB P b w = if w = 4 ∨ w = 5 then 0 else if gB p b 5 = 1 then (if w = 0 then 2 else if w = 3 then c else gB p b w) else gB p b w
def frS (c : Int32) (P : Nat → Int32) (j : Nat) : Nat → Int32 := sB (sB (if gB P j 5 = 1 then sB (sB P j 0 2) j 3 c else P) j 5 0) j 4 0
theorem fS_gB (hw : w' < 14) : gB (frS c p k) b w' = if b = k then (if w' = 4 ∨ w' = 5 then 0 else if gB p k 5 = 1 then (if w' = 0 then 2 else if w' = 3 then c else gB p k w') else gB p k w') else gB p b w' := by
  unfold frS
  rw [gB_sB (by decide) hw, gB_sB (by decide) hw]
  by_cases cb : b = k
  · rw [if_pos cb, cb]
    by_cases c4 : w' = 4
    · rw [if_pos ⟨rfl, c4⟩, if_pos (Or.inl c4)]
    · rw [if_neg (fun z => c4 z.2)]
      by_cases c5 : w' = 5
      · rw [if_pos ⟨rfl, c5⟩, if_pos (Or.inr c5)]
      · rw [if_neg (fun z => c5 z.2), if_neg (show ¬ (w' = 4 ∨ w' = 5) by omega)]
        by_cases c1 : gB p k 5 = 1
        · rw [if_pos c1, if_pos c1, gB_sB (by decide) hw, gB_sB (by decide) hw]
          by_cases c3 : w' = 3
          · rw [if_pos ⟨rfl, c3⟩, if_neg (show ¬ w' = 0 by omega), if_pos c3]
          · rw [if_neg (fun z => c3 z.2), if_neg c3]
            by_cases c0 : w' = 0
            · rw [if_pos ⟨rfl, c0⟩, if_pos c0]
            · rw [if_neg (fun z => c0 z.2), if_neg c0]
        · rw [if_neg c1, if_neg c1]
  · rw [if_neg cb, if_neg (fun z => cb z.1), if_neg (fun z => cb z.1)]
    split
    · rw [gB_sB (by decide) hw, if_neg (fun z => cb z.1), gB_sB (by decide) hw, if_neg (fun z => cb z.1)]
    · rfl
theorem fS_same (hk : k < 32) : Same p (frS c p k) := by
  unfold frS
  refine Same.tr ?_ ((Same.sB hk (by decide)).tr (Same.sB hk (by decide)))
  split
  · exact (Same.sB hk (by decide)).tr (Same.sB hk (by decide))
  · exact Same.rf
def frM (c : Int32) (n k : Nat) (p : Nat → Int32) : Nat → Int32 := lp (fun j P => frS c P j) n k p
def fMe (c : Int32) (p : Nat → Int32) : Nat → Int32 := sS (sS (frM c 32 0 p) 466 0) 467 (-1)
theorem fM_gB : ∀ (n k : Nat) (p : Nat → Int32), k + n ≤ 32 → ∀ b w, w < 14 → gB (frM c n k p) b w = if k ≤ b ∧ b < k + n then (if w = 4 ∨ w = 5 then 0 else if gB p b 5 = 1 then (if w = 0 then 2 else if w = 3 then c else gB p b w) else gB p b w) else gB p b w
  | 0, k, p, _, b, w, _ => (if_neg (by omega)).symm
  | n + 1, k, p, h, b, w, hw => by
    have e : frM c (n + 1) k p = frM c n (k + 1) (frS c p k) := rfl
    rw [e, fM_gB n (k + 1) _ (by omega) b w hw, fS_gB (by decide), fS_gB hw]
    by_cases cb : b = k
    · rw [if_neg (show ¬ (k + 1 ≤ b ∧ b < k + 1 + n) by omega), if_pos cb, if_pos (show k ≤ b ∧ b < k + (n + 1) by omega), cb]
    · rw [if_neg cb, if_neg cb]
      by_cases c2 : k + 1 ≤ b ∧ b < k + 1 + n
      · rw [if_pos c2, if_pos (show k ≤ b ∧ b < k + (n + 1) by omega)]
      · rw [if_neg c2, if_neg (show ¬ (k ≤ b ∧ b < k + (n + 1)) by omega)]
theorem fM_same : ∀ (n k : Nat) (p : Nat → Int32), k + n ≤ 32 → Same p (frM c n k p)
  | 0, _, _, _ => Same.rf
  | n + 1, k, p, h => (fS_same (by omega)).tr (fM_same n (k + 1) _ (by omega))
theorem fMe_free : FreeOf c p (fMe c p) := fun b w hb hw => by
  unfold fMe
  rw [gB_sS (by decide) hb hw, gB_sS (by decide) hb hw, fM_gB 32 0 p (by omega) b w hw, if_pos (by omega)]
theorem fMe_hi (h : 448 ≤ i) : fMe c p i = if i = 467 then -1 else if i = 466 then 0 else p i := by
  show (if i = 467 then -1 else if i = 466 then 0 else frM c 32 0 p i) = _
  rw [fM_same 32 0 p (by omega) i h]
theorem frees_b4 : ∀ (n k fu : Nat) (a : Int32) (p : Nat → Int32), k + n = 32 → n < fu → f_X7_frees_b4 q fu c a (nI k) (rst m (q + 1) p) = some (lp (fun j (x : Int32) => x + (if decide (gB p j 5 = 1) then 1 else 0)) n k a, rst m (q + 1) (sS (sS (frM c n k p) 466 0) 467 (-1))) := by
  intro n
  induction n with
  | zero =>
    intro k fu a p hk hf
    obtain ⟨fu, rfl⟩ : ∃ z, fu = z + 1 := ⟨fu - 1, by omega⟩
    rw [f_X7_frees_b4, if_pos (lI (c := 32) 32 k rfl (by omega) (by omega)), show (466 : Int32) = nI 466 from rfl, sS_r (by decide), Option.bind_some, show (467 : Int32) = nI 467 from rfl, sS_r (by decide), Option.bind_some]
    rfl
  | succ n ih =>
    intro k fu a p hk hf
    obtain ⟨fu, rfl⟩ : ∃ z, fu = z + 1 := ⟨fu - 1, by omega⟩
    have hk2 : k < 32 := by omega
    have ed : frM c (n + 1) k p = frM c n (k + 1) (frS c p k) := rfl
    have el : lp (fun j (x : Int32) => x + (if decide (gB p j 5 = 1) then 1 else 0)) (n + 1) k a = lp (fun j (x : Int32) => x + (if decide (gB p j 5 = 1) then 1 else 0)) n (k + 1) (a + (if decide (gB p k 5 = 1) then 1 else 0)) := rfl
    have ec : ∀ z, lp (fun j (x : Int32) => x + (if decide (gB (frS c p k) j 5 = 1) then 1 else 0)) n (k + 1) z = lp (fun j (x : Int32) => x + (if decide (gB p j 5 = 1) then 1 else 0)) n (k + 1) z := fun z => lp_cg _ _ _ (fun j h1 h2 x => by rw [fS_gB (by decide), if_neg (show ¬ j = k by omega)])
    rw [f_X7_frees_b4, if_neg (nlI (c := 32) 32 k rfl (by omega) (by omega)), show f_X7_of q (nI k) 5 (rst m (q + 1) p) = some (gB p k 5) by rw [of5 hk2, rst_eq], Option.bind_some, ed, el]
    unfold f_X7_frees_b37
    by_cases c1 : gB p k 5 = 1
    · rw [if_pos c1, lay_rc (y := 0) 0 rfl hk2 (by decide), Option.bind_some, lay_rc (y := 3) 3 rfl hk2 (by decide), Option.bind_some, lay_rc (y := 5) 5 rfl hk2 (by decide), Option.bind_some, lay_rc (y := 4) 4 rfl hk2 (by decide), Option.bind_some, nI_1]
      have ef : frS c p k = sB (sB (sB (sB p k 0 2) k 3 c) k 5 0) k 4 0 := by
        unfold frS
        rw [if_pos c1]
      rw [← ef, ih (k + 1) fu _ _ (by omega) (by omega), ec, if_pos (decide_eq_true c1)]
    · rw [if_neg c1, lay_rc (y := 5) 5 rfl hk2 (by decide), Option.bind_some, lay_rc (y := 4) 4 rfl hk2 (by decide), Option.bind_some, nI_1]
      have ef : frS c p k = sB (sB p k 5 0) k 4 0 := by
        unfold frS
        rw [if_neg c1]
      rw [← ef, ih (k + 1) fu _ _ (by omega) (by omega), ec, if_neg (by rw [decide_eq_false c1]; decide), Int32.add_zero]
theorem frees_r : f_X7_frees q c (rst m (q + 1) p) = some (nI (nLeft p), rst m (q + 1) (fMe c p)) := by
  have e := frees_b4 (q := q) (m := m) (c := c) 32 0 FU 0 p (by omega) (by decide)
  rw [nI_0, ct_lp0] at e
  exact e
theorem freeLeft_b4 : ∀ (n k fu : Nat) (a : Int32) (μ : Mem), k + n = 32 → n < fu → ∃ μ', f_X1_freeLeft_b4 q fu c a (nI k) μ = some (lp (fun j (x : Int32) => x + (if decide (μ (q + 6) j = 1) then 1 else 0)) n k a, μ') ∧ (∀ z, z ≠ q + 1 → z ≠ q + 4 → z ≠ q + 6 → μ' z = μ z) ∧ ∀ j, j < 32 → μ' (q + 1) j = (if k ≤ j ∧ μ (q + 6) j = 1 then 2 else μ (q + 1) j) ∧ μ' (q + 4) j = (if k ≤ j ∧ μ (q + 6) j = 1 then c else μ (q + 4) j) ∧ μ' (q + 6) j = (if k ≤ j ∧ μ (q + 6) j = 1 then 0 else μ (q + 6) j) := by
  intro n
  induction n with
  | zero =>
    intro k fu a μ hk hf
    obtain ⟨fu, rfl⟩ : ∃ z, fu = z + 1 := ⟨fu - 1, by omega⟩
    rw [f_X1_freeLeft_b4, if_pos (lI (c := 32) 32 k rfl (by omega) (by omega))]
    exact ⟨μ, rfl, fun _ _ _ _ => rfl, fun j hj => ⟨(if_neg (by omega)).symm, (if_neg (by omega)).symm, (if_neg (by omega)).symm⟩⟩
  | succ n ih =>
    intro k fu a μ hk hf
    obtain ⟨fu, rfl⟩ : ∃ z, fu = z + 1 := ⟨fu - 1, by omega⟩
    have hk2 : k < 32 := by omega
    rw [f_X1_freeLeft_b4, if_neg (nlI (c := 32) 32 k rfl (by omega) (by omega)), rd_n hk2 (by decide), Option.bind_some]
    unfold f_X1_freeLeft_b44
    by_cases c1 : μ (q + 6) k = 1
    · rw [if_pos c1, wr_n hk2 (by decide), Option.bind_some, wr_n hk2 (by decide), Option.bind_some, wr_n hk2 (by decide), Option.bind_some, nI_1]
      obtain ⟨μ2, b1, b2, b3⟩ := ih (k + 1) fu (a + 1) (mst (mst (mst μ (q + 1) k 2) (q + 4) k c) (q + 6) k 0) (by omega) (by omega)
      have e6 : ∀ j, mst (mst (mst μ (q + 1) k 2) (q + 4) k c) (q + 6) k 0 (q + 6) j = if j = k then 0 else μ (q + 6) j := fun j => by
        rw [mst_eq, mst_ne (by omega), mst_ne (by omega)]
        rfl
      have e1 : ∀ j, mst (mst (mst μ (q + 1) k 2) (q + 4) k c) (q + 6) k 0 (q + 1) j = if j = k then 2 else μ (q + 1) j := fun j => by
        rw [mst_ne (by omega), mst_ne (by omega), mst_eq]
        rfl
      have e4 : ∀ j, mst (mst (mst μ (q + 1) k 2) (q + 4) k c) (q + 6) k 0 (q + 4) j = if j = k then c else μ (q + 4) j := fun j => by
        rw [mst_ne (by omega), mst_eq, mst_ne (by omega)]
        rfl
      refine ⟨μ2, ?_, fun z z1 z2 z3 => ?_, fun j hj => ?_⟩
      · rw [b1]
        congr 2
        show _ = lp _ n (k + 1) (a + (if decide (μ (q + 6) k = 1) then 1 else 0))
        rw [if_pos (decide_eq_true c1)]
        refine lp_cg _ _ _ (fun j h1 h2 x => ?_)
        rw [e6, if_neg (show ¬ j = k by omega)]
      · rw [b2 z z1 z2 z3, mst_ne z3, mst_ne z2, mst_ne z1]
      · obtain ⟨g1, g2, g3⟩ := b3 j hj
        rw [g1, g2, g3, e6, e1, e4]
        by_cases cj : j = k
        · have n1 : ¬ (k + 1 ≤ j ∧ (if j = k then 0 else μ (q + 6) j) = 1) := fun z => absurd z.1 (by omega)
          have y1 : k ≤ j ∧ μ (q + 6) j = 1 := ⟨by omega, by rw [cj]; exact c1⟩
          rw [if_neg n1, if_neg n1, if_neg n1, if_pos cj, if_pos cj, if_pos cj, if_pos y1, if_pos y1, if_pos y1]
          exact ⟨rfl, rfl, rfl⟩
        · rw [if_neg cj, if_neg cj, if_neg cj]
          by_cases c2 : k + 1 ≤ j ∧ μ (q + 6) j = 1
          · have c3 : k ≤ j ∧ μ (q + 6) j = 1 := ⟨by omega, c2.2⟩
            rw [if_pos c2, if_pos c2, if_pos c2, if_pos c3, if_pos c3, if_pos c3]
            exact ⟨rfl, rfl, rfl⟩
          · have c3 : ¬ (k ≤ j ∧ μ (q + 6) j = 1) := fun z => c2 ⟨by omega, z.2⟩
            rw [if_neg c2, if_neg c2, if_neg c2, if_neg c3, if_neg c3, if_neg c3]
            exact ⟨rfl, rfl, rfl⟩
    · rw [if_neg c1, nI_1]
      obtain ⟨μ2, b1, b2, b3⟩ := ih (k + 1) fu a μ (by omega) (by omega)
      refine ⟨μ2, ?_, b2, fun j hj => ?_⟩
      · rw [b1]
        congr 2
        show _ = lp _ n (k + 1) (a + (if decide (μ (q + 6) k = 1) then 1 else 0))
        rw [if_neg (by rw [decide_eq_false c1]; decide), Int32.add_zero]
      · obtain ⟨g1, g2, g3⟩ := b3 j hj
        rw [g1, g2, g3]
        by_cases c2 : k + 1 ≤ j ∧ μ (q + 6) j = 1
        · have c3 : k ≤ j ∧ μ (q + 6) j = 1 := ⟨by omega, c2.2⟩
          rw [if_pos c2, if_pos c2, if_pos c2, if_pos c3, if_pos c3, if_pos c3]
          exact ⟨rfl, rfl, rfl⟩
        · have c3 : ¬ (k ≤ j ∧ μ (q + 6) j = 1) := fun z => by
            by_cases cj : j = k
            · rw [cj] at z
              exact c1 z.2
            · exact c2 ⟨by omega, z.2⟩
          rw [if_neg c2, if_neg c2, if_neg c2, if_neg c3, if_neg c3, if_neg c3]
          exact ⟨rfl, rfl, rfl⟩
/-- the class frees what was left, behind keepFresh -/
theorem RB.freeLeft (h : RB q μ p) (hB : BedsOK p) (hP : FreeOf c p P) (μ1 : Mem) (h1 : μ1 = rst μ (q + 5) (fun i => if i < 32 then 0 else μ (q + 5) i)) : ∃ μ', f_X1_freeLeft q c μ1 = some (nI (nLeft p), μ') ∧ RB q μ' P ∧ Fr q μ μ' := by
  obtain ⟨μ2, b1, b2, b3⟩ := freeLeft_b4 (q := q) (c := c) 32 0 FU 0 μ1 (by omega) (by decide)
  rw [nI_0] at b1
  have r6 : ∀ j, j < 32 → μ1 (q + 6) j = gB p j 5 := fun j hj => by
    rw [h1, rst_ne (by omega)]
    exact (h.1 j hj).2.2.2.2.2
  have fr : ∀ z, z ≠ q + 5 → μ1 z = μ z := fun z hz => by rw [h1, rst_ne hz]
  refine ⟨μ2, ?_, h.rows (fun z z1 z2 z3 z4 z5 z6 => (b2 z z3 z4 z6).trans (fr z z5)) (fun b w hb hw hc => ?_) (fun b hb => ?_) (fun b hb => ?_), fun z hz => (b2 z (by omega) (by omega) (by omega)).trans (fr z (by omega))⟩
  · unfold f_X1_freeLeft
    rw [b1]
    congr 2
    unfold nLeft
    rw [← ct_lp0]
    exact lp_cg _ _ _ (fun j h1 h2 x => by rw [r6 j (by omega)])
  · rw [hP b w hb hw, if_neg (by omega)]
    split
    · rw [if_neg (by omega), if_neg (by omega)]
    · rfl
  · rw [hP b 0 hb (by decide), if_neg (by decide)]
    by_cases c1 : gB p b 5 = 1
    · rw [if_pos c1, if_pos rfl, (hB b hb).2.2.2.2 c1]
      decide
    · rw [if_neg c1]
  · obtain ⟨g1, g2, g3⟩ := b3 b hb
    have eb := h.1 b hb
    have e5 : μ2 (q + 5) b = 0 := by
      rw [b2 (q + 5) (by omega) (by omega) (by omega), h1, rst_eq, if_pos hb]
    rw [g1, g2, g3, e5, r6 b hb, fr (q + 1) (by omega), fr (q + 4) (by omega), hP b 0 hb (by decide), hP b 3 hb (by decide), hP b 4 hb (by decide), hP b 5 hb (by decide), if_pos (show 4 = 4 ∨ 4 = 5 from Or.inl rfl), if_pos (show 5 = 4 ∨ 5 = 5 from Or.inr rfl), if_neg (show ¬ (0 = 4 ∨ 0 = 5) by decide), if_neg (show ¬ (3 = 4 ∨ 3 = 5) by decide)]
    by_cases c1 : gB p b 5 = 1
    · have c2 : 0 ≤ b ∧ gB p b 5 = 1 := ⟨Nat.zero_le _, c1⟩
      rw [if_pos c2, if_pos c2, if_pos c2, if_pos c1, if_pos c1, if_pos rfl, if_pos rfl, if_neg (by decide), if_pos rfl]
      exact ⟨rfl, rfl, rfl, rfl⟩
    · have c2 : ¬ (0 ≤ b ∧ gB p b 5 = 1) := fun z => c1 z.2
      rw [if_neg c2, if_neg c2, if_neg c2, if_neg c1, if_neg c1]
      refine ⟨eb.1, eb.2.2.2.1, rfl, ?_⟩
      exact (hB b hb).2.2.1.resolve_right c1
end PDRP
