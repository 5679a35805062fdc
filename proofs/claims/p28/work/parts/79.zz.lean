theorem pure_all : ∃ gm : Nat → Mem, (∀ b, f_X4_ctor b = some (gm b)) ∧ ∀ (xs : Nat → Int32) (L : Nat), L ≤ 260 → ∃ μ', f_L_law xs L (pμ gm 0) = some (1, μ') := sorry
