/-! PURE, what digging looks at stays when states and freeings stay; places among sorted keys -/
section PCG
variable {q : Nat} {μ : Mem} {p p' : Nat → Int32} {l b n s k d pl : Nat} {key val : Int32}
/-- states and freeings of all beds, roots and readers are the same -/
def DgSame (p p' : Nat → Int32) : Prop := Same p p' ∧ ∀ b, b < 32 → gB p' b 0 = gB p b 0 ∧ gB p' b 3 = gB p b 3
theorem Same.needEq (h : Same p p') (w : Int32) : need p' w = need p w := by
  have e1 : ∀ r m, rmin p' r m = rmin p r m := fun r m => by unfold rmin; rw [h.gRe, h.gRe]
  have e2 : ∀ r m, dmin p' w r m = dmin p w r m := fun r m => by unfold dmin; rw [h.gDe, h.gDe]
  show lp (dmin p' w) 4 0 (lp (rmin p') 2 0 (gR p' (cur p') 0)) = lp (dmin p w) 4 0 (lp (rmin p) 2 0 (gR p (cur p) 0))
  rw [h.cureq, h.gRe, lp_cg (s := rmin p') (t := rmin p) 2 0 _ (fun j _ _ a => e1 j a), lp_cg (s := dmin p' w) (t := dmin p w) 4 0 _ (fun j _ _ a => e2 j a)]
theorem DgSame.dgEq (h : DgSame p p') (hb : b < 32) : dg p' b = dg p b := by
  show (decide (gB p' b 0 = 2) && decide (gB p' b 3 ≤ need p' (-1))) = (decide (gB p b 0 = 2) && decide (gB p b 3 ≤ need p (-1)))
  rw [(h.2 b hb).1, (h.2 b hb).2, h.1.needEq]
theorem DgSame.wildEq (h : DgSame p p') (hb : b < 32) : wild p' b = wild p b := by
  show decide (gB p' b 0 = 0) = decide (gB p b 0 = 0)
  rw [(h.2 b hb).1]
theorem DgSame.manyEq (h : DgSame p p') : many p' = many p := ct_cg 32 (fun j hj => by rw [h.dgEq hj, h.wildEq hj])
theorem DgSame.nfreeEq (h : DgSame p p') : nfree p' = nfree p := ct_cg 32 (fun j hj => by rw [h.dgEq hj])
theorem DgSame.nxtEq (h : DgSame p p') : nxt p' = nxt p := by
  have e : lp (ostep p') 32 0 none = lp (ostep p) 32 0 none := by
    have hr := lp_rel (s := ostep p') (t := ostep p) (fun o o' => o = o' ∧ ∀ c, o = some c → c < 32) 32 0 none none ⟨rfl, fun c hc => by cases hc⟩ (fun j h1 h2 o o' ho => by
      obtain ⟨rfl, ho2⟩ := ho
      have hj : j < 32 := by omega
      have ed := h.dgEq hj
      by_cases c : dg p j = true
      · have c' : dg p' j = true := by rw [ed]; exact c
        cases o with
        | none =>
          rw [ostep_none c, ostep_none c']
          exact ⟨rfl, fun z hz => by cases Option.some.inj hz; exact hj⟩
        | some g =>
          have hg := ho2 g rfl
          have e3 : gB p' j 3 = gB p j 3 := (h.2 j hj).2
          have e4 : gB p' g 3 = gB p g 3 := (h.2 g hg).2
          by_cases c2 : gB p j 3 < gB p g 3
          · rw [ostep_y c c2, ostep_y c' (by rw [e3, e4]; exact c2)]
            exact ⟨rfl, fun z hz => by cases Option.some.inj hz; exact hj⟩
          · rw [ostep_n c c2, ostep_n c' (by rw [e3, e4]; exact c2)]
            exact ⟨rfl, fun z hz => by cases Option.some.inj hz; exact hg⟩
      · have c0 := eq_false_of_ne_true c
        rw [ostep_no c0, ostep_no (by rw [ed]; exact c0)]
        exact ⟨rfl, ho2⟩)
    exact hr.1
  have e2 : sr (wild p') 32 0 = sr (wild p) 32 0 := sr_cg 32 0 (fun j h1 h2 => h.wildEq (by omega))
  unfold nxt
  rw [e, e2]
theorem ct_thr {P : Nat → Bool} : ∀ (n : Nat), (∀ i j, i < j → j < n → P j = true → P i = true) → ∀ j, j < n → (P j = true ↔ j < ct P n)
  | 0, _, j, hj => absurd hj (Nat.not_lt_zero j)
  | n + 1, hm, j, hj => by
    have ih := ct_thr n (fun i j h1 h2 => hm i j h1 (by omega))
    have e : ct P (n + 1) = ct P n + (if P n then 1 else 0) := rfl
    have hle := ct_le (P := P) n
    rw [e]
    by_cases c : P n = true
    · have hall : ∀ i, i < n → P i = true := fun i hi => hm i n hi (by omega) c
      have hn : ct P n = n := by
        rcases Nat.eq_zero_or_pos n with z | z
        · rw [z]
          rfl
        · have := (ih (n - 1) (by omega)).mp (hall (n - 1) (by omega))
          omega
      rw [if_pos c, hn]
      refine ⟨fun _ => hj, fun _ => ?_⟩
      by_cases ej : j = n
      · rw [ej]
        exact c
      · exact hall j (by omega)
    · rw [if_neg c, Nat.add_zero]
      by_cases ej : j = n
      · rw [ej]
        exact ⟨fun z => absurd z c, fun z => absurd z (by omega)⟩
      · exact ih j (by omega)
theorem spos_thr (hl : LeafOK p l) (h4 : nB p l 2 = 4) : ∀ j, j < 4 → (gB p l (6 + 2 * j) < key ↔ j < spos p l key) := by
  have h := ct_thr (P := fun j => decide (gB p l (6 + 2 * j) < key)) 4 (fun i j h1 h2 hP => decide_eq_true (Int32.lt_trans (hl.2.2.2.2.2.2 i j h1 (by omega)) (of_decide_eq_true hP)))
  intro j hj
  exact ⟨fun z => (h j hj).mp (decide_eq_true z), fun z => of_decide_eq_true ((h j hj).mpr z)⟩
end PCG
