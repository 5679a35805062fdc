/-! PURE, the model's split in closed form -/
section PSPL3
variable {q : Nat} {μ : Mem} {p : Nat → Int32} {l b n s k d pl : Nat} {key val : Int32}
/-- the five entries laid over the leaf and the new one behind it; K, V from the page p, onto P -/
def spL (p : Nat → Int32) (l b s : Nat) (key val : Int32) (n k : Nat) (P : Nat → Int32) : Nat → Int32 := lp (fun j P => if j < 3 then setE P l j (spK p l s key j) (spV p l s val j) else setE P b (j - 3) (spK p l s key j) (spV p l s val j)) n k P
def spB (p : Nat → Int32) (l b s : Nat) (key val : Int32) (P : Nat → Int32) : Nat → Int32 := sB (sB (spL p l b s key val 5 0 P) l 2 3) b 2 2
theorem splits_b141 (hl : l < 32) (hb : b < 32) {x1 x2 : Int32} {f : Nat → Int32} (hf5 : ∀ j, j < 5 → f (2 * j) = spK p l s key j ∧ f (2 * j + 1) = spV p l s val j) : ∀ (n k fu : Nat) (P : Nat → Int32), k + n = 5 → n < fu → f_X7_splits_b141 q fu x1 x2 (nI l) (nI b) (nI k) (rst (rst μ (q + 5) f) (q + 1) P) = f_X7_insertLeaf q x1 (x2 + 1) (nI b) (rst (rst μ (q + 5) f) (q + 1) (sB (sB (spL p l b s key val n k P) l 2 3) b 2 2)) := by
  intro n
  induction n with
  | zero =>
    intro k fu P hk hf
    obtain ⟨fu, rfl⟩ : ∃ z, fu = z + 1 := ⟨fu - 1, by omega⟩
    rw [f_X7_splits_b141, if_pos (lI (c := 5) 5 k rfl (by omega) (by omega)), lay_rc (y := 2) 2 rfl hl (by decide), Option.bind_some, lay_rc (y := 2) 2 rfl hb (by decide), Option.bind_some]
    show (f_X7_insertLeaf q x1 (x2 + 1) (nI b) (rst (rst μ (q + 5) f) (q + 1) (sB (sB P l 2 3) b 2 2))).bind (fun μ5 => some μ5) = f_X7_insertLeaf q x1 (x2 + 1) (nI b) (rst (rst μ (q + 5) f) (q + 1) (sB (sB P l 2 3) b 2 2))
    cases f_X7_insertLeaf q x1 (x2 + 1) (nI b) (rst (rst μ (q + 5) f) (q + 1) (sB (sB P l 2 3) b 2 2)) <;> rfl
  | succ n ih =>
    intro k fu P hk hf
    obtain ⟨fu, rfl⟩ : ∃ z, fu = z + 1 := ⟨fu - 1, by omega⟩
    have e2 : (2 : Int32) * nI k = nI (2 * k) := by rw [show (2 : Int32) = nI 2 from rfl, nI_mul]
    have r5 : rst (rst μ (q + 5) f) (q + 1) P (q + 5) = f := by rw [rst_ne (by omega), rst_eq]
    have hfk := hf5 k (by omega)
    rw [f_X7_splits_b141, if_neg (nlI (c := 5) 5 k rfl (by omega) (by omega))]
    unfold f_X7_splits_b160 f_X7_splits_b175
    rw [e2, nI_1, r5, rd_n (by omega) (by decide), rd_n (by omega) (by decide), hfk.1, hfk.2]
    simp only [Option.bind_some]
    by_cases c : k < 3
    · rw [if_neg (nlI (c := 3) 3 k rfl (by omega) (by omega)), if_neg (nlI (c := 3) 3 k rfl (by omega) (by omega)), setEntry_r hl (by omega), Option.bind_some, nI_1, ih (k + 1) fu _ (by omega) (by omega)]
      show _ = f_X7_insertLeaf q x1 (x2 + 1) (nI b) (rst (rst μ (q + 5) f) (q + 1) (sB (sB (spL p l b s key val n (k + 1) (if k < 3 then setE P l k (spK p l s key k) (spV p l s val k) else setE P b (k - 3) (spK p l s key k) (spV p l s val k))) l 2 3) b 2 2))
      rw [if_pos c]
    · have e3 : nI k - 3 = nI (k - 3) := by rw [show (3 : Int32) = nI 3 from rfl, nI_sub (by omega)]
      rw [if_pos (lI (c := 3) 3 k rfl (by omega) (by omega)), if_pos (lI (c := 3) 3 k rfl (by omega) (by omega)), e3, setEntry_r hb (by omega), Option.bind_some, nI_1, ih (k + 1) fu _ (by omega) (by omega)]
      show _ = f_X7_insertLeaf q x1 (x2 + 1) (nI b) (rst (rst μ (q + 5) f) (q + 1) (sB (sB (spL p l b s key val n (k + 1) (if k < 3 then setE P l k (spK p l s key k) (spV p l s val k) else setE P b (k - 3) (spK p l s key k) (spV p l s val k))) l 2 3) b 2 2))
      rw [if_neg c]
theorem insertLeaf_r (hd : d < 32) {x : Int32} (h2 : gB p d 2 = nI n) (hpl : pl ≤ n) (hn : n < 6) : f_X7_insertLeaf q (nI d) (nI pl) x (rst μ (q + 1) p) = some (rst μ (q + 1) (inL p d pl (n - pl) x n)) := by
  unfold f_X7_insertLeaf
  rw [of2 hd, rst_eq, Option.bind_some, h2]
  have e := insertLeafM (q := q) (μ := μ) (x := x) (pl := pl) hd (n - pl) FU p n (by unfold FU; omega) h2 (by omega) hn
  rw [show pl + (n - pl) = n by omega] at e
  exact e
/-- the model's split: b is the bed dug; the row of ten is left behind -/
theorem splits_r (hl : l < 32) (hd : d < 32) (hb : nxt p = some b) (h2 : gB (spB p l b (spos p l key) key val (dgB p b 0)) d 2 = nI n) (hpl : pl + 1 ≤ n) (hn : n < 6) (f : Nat → Int32) : ∃ f', f_X7_splits q (nI d) (nI pl) (nI l) key val (rst (rst μ (q + 5) f) (q + 1) p) = some (rst (rst μ (q + 5) f') (q + 1) (inL (spB p l b (spos p l key) key val (dgB p b 0)) d (pl + 1) (n - (pl + 1)) (nI b) n)) := by
  have hb32 := nxt_lt hb
  have hs := spos_le (p := p) (l := l) (key := key)
  have e6 := splits_b6 (q := q) (μ := rst (rst μ (q + 5) f) (q + 1) p) (key := key) (val := val) hl (x1 := nI d) (x2 := nI pl) 4 0 FU 0 (by omega) (by decide)
  rw [nI_0, rst_eq, ct_lp0] at e6
  have e43 := splits_b43 (q := q) (μ := μ) (p := p) (key := key) (val := val) hl hs (x1 := nI d) (x2 := nI pl) 5 0 FU f (by omega) (by decide)
  rw [nI_0] at e43
  refine ⟨rowR p l (spos p l key) key val 5 0 f, ?_⟩
  unfold f_X7_splits
  rw [e6]
  refine (show f_X7_splits_b43 q FU (nI d) (nI pl) (nI l) key val (nI (spos p l key)) 0 (rst (rst μ (q + 5) f) (q + 1) p) = _ from e43).trans ?_
  rw [dig_r hb]
  have e141 := splits_b141 (q := q) (μ := μ) (p := p) (l := l) (b := b) (s := spos p l key) (key := key) (val := val) hl hb32 (x1 := nI d) (x2 := nI pl) (f := rowR p l (spos p l key) key val 5 0 f) (fun j hj => rowR_eq 5 0 f j (by omega) (by omega)) 5 0 FU (dgB p b 0) (by omega) (by decide)
  rw [nI_0, nI_1] at e141
  refine (show f_X7_splits_b141 q FU (nI d) (nI pl) (nI l) (nI b) 0 (rst (rst μ (q + 5) (rowR p l (spos p l key) key val 5 0 f)) (q + 1) (dgB p b 0)) = _ from e141).trans ?_
  exact insertLeaf_r hd h2 hpl hn
end PSPL3
