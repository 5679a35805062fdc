def Jinv (n : Nat) (μ : Mem) (hh : Int64) : Prop := n = n
theorem pure_init : ∃ (gm : Nat → Mem) (μ7 : Mem), (∀ b, f_X4_ctor b = some (gm b)) ∧ f_X7_init_tail 85 zμ = some μ7 ∧ Jinv 0 (pw 85 (pμ gm 0) μ7) 0 := by
  sorry
theorem pure_step : ∀ (n : Nat) (μ : Mem) (hh : Int64), n < 512 → Jinv n μ hh → ∀ op a1 a2 : Int32, ∃ (μ' : Mem) (hh' : Int64), Step op a1 a2 μ hh μ' hh' ∧ Jinv (n + 1) μ' hh' := by
  sorry
