theorem c_L_beds_w (l : Launch) {D : va_G} {cI cG cL : ClassId} {A : Nat → Prop} {tC tS : Nat} {adE adK adV : Nat → Nat} (hE : EnOK (ENV tC tS adE adK adV A) A) (hst : l.stackTraces = false) {sz : Nat} (hA : ∀ q, sz ≤ q → A q) {w : Mem → va_W} {ad : Nat → Nat} (hw : ∀ μ, w μ = cPG cI cG adE ad 0 μ) {μ : Mem} {r : Int32} {μ' : Mem} (h : f_L_beds μ = some (r, μ')) : Met l yL_beds wsL_beds (rmc 5 1 3 113) (WPreN D (tyl cI cG cL) A (ENV tC tS adE adK adV A) sz (w μ) [.ref (ad 0)]) (PI D A (w μ') r) 1 3 A := by
  rw [hw, hw]
  exact c_L_beds l hE hst hA h
