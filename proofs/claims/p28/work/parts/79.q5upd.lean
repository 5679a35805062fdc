/-! PURE, pages that are written: the model's small steps in closed form -/
section PUPD
def rst (μ : Mem) (k : Nat) (f : Nat → Int32) : Mem := fun j => if j = k then f else μ j
def sB (p : Nat → Int32) (b w : Nat) (x : Int32) : Nat → Int32 := upd p (14 * b + w) x
variable {q : Nat} {μ : Mem} {p f f' : Nat → Int32} {b b' w w' k r v : Nat} {x : Int32}
theorem rst_eq : rst μ k f k = f := if_pos rfl
theorem rst_ne {j : Nat} (h : j ≠ k) : rst μ k f j = μ j := if_neg h
theorem rst_rst : rst (rst μ k f) k f' = rst μ k f' := by
  funext j
  unfold rst
  split <;> rfl
theorem mst_rst {j : Nat} : mst μ k j x = rst μ k (upd (μ k) j x) := rfl
theorem mst_rst2 {j : Nat} : mst (rst μ k f) k j x = rst μ k (upd f j x) := by
  rw [mst_rst, rst_eq, rst_rst]
theorem gB_sB (hw : w < 14) (hw' : w' < 14) : gB (sB p b w x) b' w' = if b' = b ∧ w' = w then x else gB p b' w' := by
  show (if 14 * b' + w' = 14 * b + w then x else p (14 * b' + w')) = if b' = b ∧ w' = w then x else p (14 * b' + w')
  by_cases c : b' = b ∧ w' = w
  · rw [if_pos c, if_pos (by rw [c.1, c.2])]
  · rw [if_neg c, if_neg (fun e => c ⟨by omega, by omega⟩)]
theorem gR_sB (hb : b < 32) (hw : w < 14) : gR (sB p b w x) r v = gR p r v := if_neg (by omega)
theorem gD_sB (hb : b < 32) (hw : w < 14) : gD (sB p b w x) r v = gD p r v := if_neg (by omega)
theorem pc_sB (hb : b < 32) (hw : w < 14) (hk : 448 ≤ k) : sB p b w x k = p k := if_neg (by omega)
theorem lay_r (hb : b < 32) (hw : w < 14) : f_X7_lay q (nI b) (nI w) x μ = some (rst μ (q + 1) (sB (μ (q + 1)) b w x)) := lay_n hb hw
theorem lay_rr (hb : b < 32) (hw : w < 14) : f_X7_lay q (nI b) (nI w) x (rst μ (q + 1) p) = some (rst μ (q + 1) (sB p b w x)) := by
  rw [lay_r hb hw, rst_eq, rst_rst]
theorem lay_rc {y : Int32} (w : Nat) (e : y = nI w) (hb : b < 32) (hw : w < 14) : f_X7_lay q (nI b) y x (rst μ (q + 1) p) = some (rst μ (q + 1) (sB p b w x)) := by rw [e]; exact lay_rr hb hw
theorem rst_self : rst μ k (μ k) = μ := by
  funext j
  unfold rst
  split
  · rename_i h
    rw [h]
  · rfl
/-- same roots, readers and rest -/
def Same (p p' : Nat → Int32) : Prop := ∀ i, 448 ≤ i → p' i = p i
theorem Same.rf : Same p p := fun _ _ => rfl
theorem Same.tr {p' p'' : Nat → Int32} (h : Same p p') (h' : Same p' p'') : Same p p'' := fun i hi => (h' i hi).trans (h i hi)
theorem Same.sB (hb : b < 32) (hw : w < 14) : Same p (sB p b w x) := fun _ hi => pc_sB hb hw hi
theorem Same.gRe {p' : Nat → Int32} (h : Same p p') : gR p' r v = gR p r v := h _ (by omega)
theorem Same.gDe {p' : Nat → Int32} (h : Same p p') : gD p' r v = gD p r v := h _ (by omega)
theorem Same.cureq {p' : Nat → Int32} (h : Same p p') : cur p' = cur p := by
  unfold cur
  rw [h.gRe, h.gRe, h.gRe, h.gRe]
end PUPD
