/-! PURE, the draft's own directory -/
section PDIRO
variable {q g : Nat} {μ μ' : Mem} {p p' : Nat → Int32} {l b b' w' n s k d f pl : Nat} {key val kind x : Int32} {B : Int}
theorem bn2_some {α β γ : Type} {a : α} {b : β} {K : α → β → Option γ} : bn2 (some (a, b)) K = K a b := rfl
theorem RB.cg (h : RB q μ p) (e : ∀ b w, b < 32 → w < 14 → gB p' b w = gB p b w) : RB q μ p' := by
  refine ⟨fun b hb => ?_, fun b hb h0 h1 i hi h4 => ?_, fun b hb h0 h1 i hi h4 => ?_⟩
  · rw [e b 0 hb (by decide), e b 1 hb (by decide), e b 2 hb (by decide), e b 3 hb (by decide), e b 4 hb (by decide), e b 5 hb (by decide)]
    exact h.1 b hb
  · rw [e b 0 hb (by decide)] at h0
    rw [e b 1 hb (by decide)] at h1
    rw [nB_of (e b 2 hb (by decide))] at hi
    rw [e b _ hb (by omega), e b _ hb (by omega)]
    exact h.2.1 b hb h0 h1 i hi h4
  · rw [e b 0 hb (by decide)] at h0
    rw [e b 1 hb (by decide)] at h1
    rw [nB_of (e b 2 hb (by decide))] at hi
    rw [e b _ hb (by omega)]
    exact h.2.2 b hb h0 h1 i hi h4
theorem lvB_gB (hw : w' < 14) : gB (lvB p b) b' w' = if gB p b 4 = 1 then (if b' = b then 0 else gB p b' w') else (if b' = b ∧ w' = 5 then 1 else gB p b' w') := by
  unfold lvB
  by_cases c : gB p b 4 = 1
  · rw [if_pos c, if_pos c, wB_gB hw]
  · rw [if_neg c, if_neg c, gB_sB (by decide) hw]
def sS (p : Nat → Int32) (k : Nat) (x : Int32) : Nat → Int32 := upd p k x
theorem gB_sS (hk : 448 ≤ k) (hb : b < 32) (hw : w' < 14) : gB (sS p k x) b w' = gB p b w' := if_neg (by omega)
theorem sS_r (hk : k < 470) : wr (rst μ (q + 1) p) (q + 1) 470 (nI k) x = some (rst μ (q + 1) (sS p k x)) := by
  rw [wr_n hk (by decide), mst_rst2]
  rfl
/-- the page with the draft's directory f copied from d -/
def oD (p : Nat → Int32) (d f : Nat) : Nat → Int32 := lvB (cpB (sS (dgB p f 1) 467 (nI f)) d f) d
theorem directory_r (hi : INV B p) (hl : p 467 < 0) (hn : nxt p = some f) : f_X7_directory q (rst μ (q + 1) p) = some (nI f, rst μ (q + 1) (oD p (cd p) f)) := by
  have hf := nxt_lt hn
  have hd := hi.2.2.1.2.1.1
  have hsame : Same (sS (dgB p f 1) 467 (nI f)) (oD p (cd p) f) := (cpB_same hf).tr (lvB_same hd)
  unfold f_X7_directory f_X7_directory_b47
  rw [rst_eq, rd_c (i := 467) 467 rfl (by decide) (by decide), Option.bind_some, if_neg (Int32.not_le.mpr hl), now_n (d := cd p) (by rw [rst_eq]; exact hi.2.2.1.1), Option.bind_some, dig_r hn, bn2_some]
  rw [show (467 : Int32) = nI 467 from rfl, sS_r (by decide), Option.bind_some, rst_eq, rd_n (by decide) (by decide), Option.bind_some, show sS (dgB p f 1) 467 (nI f) 467 = nI f from upd_eq, copies_r hd hf, Option.bind_some, leaves_r hd, Option.bind_some, rst_eq, rd_n (by decide) (by decide), Option.bind_some]
  show some ((oD p (cd p) f) 467, rst μ (q + 1) (oD p (cd p) f)) = _
  rw [hsame 467 (by decide), show sS (dgB p f 1) 467 (nI f) 467 = nI f from upd_eq]
end PDIRO
