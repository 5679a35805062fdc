/-! p28, PURE: the law's look at the beds -/
section PZBED
variable {q : Nat} {μ μ0 μ' : Mem} {p p' p'' P Q : Nat → Int32} {d d' l b n k i j r f s m a w c : Nat} {key val x2 x3 : Int32} {B : Int}
theorem J28.fr (h : J28 B μ p) (e : ∀ z, z < 85 → μ' z = μ z) : J28 B μ' p := by
  obtain ⟨h1, h2, h3, c, x, c1, c2, c3, c4⟩ := h
  exact ⟨h1.fr16 (fun z z1 z2 => e z (by omega)), h2, h3, c, x, c1, c2, by rw [e 17 (by decide)]; exact c3, by rw [e 17 (by decide)]; exact c4⟩
/-- what is dug next -/
theorem nxt_spec (h : nxt p = some f) : (gB p f 0 = 0 ∧ (∀ b, b < 32 → dg p b = false) ∧ ∀ b, b < 32 → gB p b 0 = 0 → f ≤ b) ∨ (dg p f = true ∧ ∀ b, b < 32 → dg p b = true → gB p f 3 ≤ gB p b 3 ∧ (gB p b 3 = gB p f 3 → f ≤ b)) := by
  have hI := lp_inv (s := ostep p) (fun k o => match o with
    | none => ∀ b, b < k → dg p b = false
    | some f => dg p f = true ∧ f < k ∧ ∀ b, b < k → dg p b = true → gB p f 3 ≤ gB p b 3 ∧ (gB p b 3 = gB p f 3 → f ≤ b)) 32 0 none (fun b hb => absurd hb (by omega)) (fun k h1 h2 o ho => by
    by_cases c : dg p k = true
    · cases o with
      | none =>
        rw [ostep_none c]
        refine ⟨c, by omega, fun b hb hd => ?_⟩
        by_cases e : b = k
        · subst e
          exact ⟨Int32.le_refl _, fun _ => Nat.le_refl _⟩
        · rw [ho b (by omega)] at hd
          cases hd
      | some g =>
        obtain ⟨g1, g2, g3⟩ := ho
        by_cases c2 : gB p k 3 < gB p g 3
        · rw [ostep_y c c2]
          refine ⟨c, by omega, fun b hb hd => ?_⟩
          by_cases e : b = k
          · subst e
            exact ⟨Int32.le_refl _, fun _ => Nat.le_refl _⟩
          · have q := (g3 b (by omega) hd).1
            have q2 := Int32.lt_of_lt_of_le c2 q
            exact ⟨Int32.le_of_lt q2, fun z => absurd z (Int32.ne_of_lt q2).symm⟩
        · rw [ostep_n c c2]
          refine ⟨g1, by omega, fun b hb hd => ?_⟩
          by_cases e : b = k
          · subst e
            exact ⟨Int32.not_lt.mp c2, fun _ => by omega⟩
          · exact g3 b (by omega) hd
    · have c' := eq_false_of_ne_true c
      rw [ostep_no c']
      cases o with
      | none =>
        intro b hb
        by_cases e : b = k
        · rw [e]
          exact c'
        · exact ho b (by omega)
      | some g =>
        obtain ⟨g1, g2, g3⟩ := ho
        refine ⟨g1, by omega, fun b hb hd => ?_⟩
        by_cases e : b = k
        · rw [e, c'] at hd
          cases hd
        · exact g3 b (by omega) hd)
  unfold nxt at h
  cases e : lp (ostep p) 32 0 none with
  | some g =>
    rw [e] at h hI
    cases h
    exact Or.inr ⟨hI.1, fun b hb hd => hI.2.2 b hb hd⟩
  | none =>
    rw [e] at h hI
    obtain ⟨h1, h2, h3, h4⟩ := sr_some _ _ _ h
    refine Or.inl ⟨of_decide_eq_true h3, fun b hb => hI b hb, fun b hb h0 => ?_⟩
    by_cases c : f ≤ b
    · exact c
    · have q := h4 b (by omega) (by omega)
      unfold wild at q
      rw [decide_eq_true h0] at q
      cases q
theorem dg_2 (h : gB p b 0 ≠ 2) : dg p b = false := by
  unfold dg
  rw [decide_eq_false h, Bool.false_and]
theorem dg_need (h : gB p b 0 = 2) : dg p b = decide (gB p b 3 ≤ need p (-1)) := by
  unfold dg
  rw [decide_eq_true h, Bool.true_and]
theorem nI_nn (hn : n < 2 ^ 31) : ¬ nI n = -1000 := not_none (nI_pos' hn)
theorem nI_lt1 (h1 : 1 ≤ n) (hn : n < 2 ^ 31) : ¬ nI n < 1 := fun z => absurd (show (1 : Int32) ≤ nI n from nI_le (a := 1) h1 hn) (Int32.not_le.mpr z)
theorem nI_gt {c : Int32} (m : Nat) (e : c = nI m) (h : n ≤ m) (hm : m < 2 ^ 31) : ¬ c < nI n := by
  rw [e]
  exact Int32.not_lt.mpr (nI_le h hm)
/-- one bed: all that the law asks of it holds -/
theorem bed_body {K : Int32 → Int32 → Int32 → Mem → Option (Int32 × Mem)} (h : J28 B μ p) (hb : b < 32) : (if (if gB p b 0 = 2 then gB p b 3 else -1000) = -1000 then f_L_beds_b91 K x2 x3 (nI b) (gB p b 0) (if gB p b 0 = 0 then -1000 else gB p b 1) (if gB p b 0 = 0 then -1000 else gB p b 2) 1 μ else f_L_beds_b91 K x2 x3 (nI b) (gB p b 0) (if gB p b 0 = 0 then -1000 else gB p b 1) (if gB p b 0 = 0 then -1000 else gB p b 2) 0 μ) = K x2 x3 (nI b + 1) μ := by
  have hB := h.2.1.2.1 b hb
  have e5 := bed5 h hb
  have e4 := bed4 h hb
  have e3 := bed3 h hb
  have ew := wh4 h
  have fin : ∀ (s1 s2 : Int32), gB p b 0 = s1 → s1 ≠ 0 → ((gB p b 1 = 0 ∧ ∃ n, 1 ≤ n ∧ n ≤ 4 ∧ gB p b 2 = nI n) ∨ (gB p b 1 = 1 ∧ ∃ n, n ≤ 6 ∧ gB p b 2 = nI n)) := fun s1 _ e hne => h.2.2.1.1 b hb (by rw [e]; exact hne)
  rcases hB.1 with s | s | s
  · have f4 : gB p b 4 = 0 := hB.2.1.resolve_right (fun z => by rw [(hB.2.2.2.1 z).1] at s; exact absurd s (by decide))
    have hd := dg_2 (p := p) (b := b) (by rw [s]; decide)
    rw [f4] at e5
    rw [hd] at e4
    rw [s] at e3 ⊢
    simp [f_L_beds_b91, f_L_beds_b102, f_L_beds_b118, f_L_beds_b128, f_L_beds_b144, f_L_beds_b154, f_L_beds_b174, f_L_beds_b192, f_L_beds_b209, f_L_beds_b225, f_L_beds_b250, f_L_beds_b251, e5, e4, e3, ew]
  · have hd := dg_2 (p := p) (b := b) (by rw [s]; decide)
    rw [hd] at e4
    rcases fin 1 0 s (by decide) with ⟨k0, n, n1, n2, kn⟩ | ⟨k0, n, n2, kn⟩
    · have t1 := nI_lt1 n1 (show n < 2 ^ 31 by omega)
      have t2 := nI_gt (c := 4) 4 rfl n2 (by decide)
      have t3 := nI_nn (show n < 2 ^ 31 by omega)
      rw [s] at e3 ⊢
      rw [k0, kn]
      rcases hB.2.1 with f4 | f4 <;> rw [f4] at e5 <;>
        simp [f_L_beds_b91, f_L_beds_b102, f_L_beds_b118, f_L_beds_b128, f_L_beds_b144, f_L_beds_b154, f_L_beds_b174, f_L_beds_b192, f_L_beds_b209, f_L_beds_b225, f_L_beds_b250, f_L_beds_b251, e5, e4, e3, ew, t1, t2, t3]
    · have t1 := nI_nz (show n < 2 ^ 31 by omega)
      have t2 := nI_gt (c := 6) 6 rfl n2 (by decide)
      have t3 := nI_nn (show n < 2 ^ 31 by omega)
      rw [s] at e3 ⊢
      rw [k0, kn]
      rcases hB.2.1 with f4 | f4 <;> rw [f4] at e5 <;>
        simp [f_L_beds_b91, f_L_beds_b102, f_L_beds_b118, f_L_beds_b128, f_L_beds_b144, f_L_beds_b154, f_L_beds_b174, f_L_beds_b192, f_L_beds_b209, f_L_beds_b225, f_L_beds_b250, f_L_beds_b251, e5, e4, e3, ew, t1, t2, t3]
  · have f4 : gB p b 4 = 0 := hB.2.1.resolve_right (st2_f4 h.2.1 hb s)
    have t4 : ¬ gB p b 3 = -1000 := not_none (h.2.2.1.2.1 b hb s)
    have hd := dg_need s
    rw [f4] at e5
    rw [s] at e3 ⊢
    rcases fin 2 0 s (by decide) with ⟨k0, n, n1, n2, kn⟩ | ⟨k0, n, n2, kn⟩
    · have t1 := nI_lt1 n1 (show n < 2 ^ 31 by omega)
      have t2 := nI_gt (c := 4) 4 rfl n2 (by decide)
      have t3 := nI_nn (show n < 2 ^ 31 by omega)
      rw [k0, kn]
      by_cases cn : gB p b 3 ≤ need p (-1)
      · rw [hd, decide_eq_true cn] at e4
        have cn' : ¬ need p (-1) < gB p b 3 := Int32.not_lt.mpr cn
        simp [f_L_beds_b91, f_L_beds_b102, f_L_beds_b118, f_L_beds_b128, f_L_beds_b144, f_L_beds_b154, f_L_beds_b174, f_L_beds_b192, f_L_beds_b209, f_L_beds_b225, f_L_beds_b250, f_L_beds_b251, e5, e4, e3, ew, t1, t2, t3, t4, cn']
      · rw [hd, decide_eq_false cn] at e4
        have cn' : need p (-1) < gB p b 3 := Int32.not_le.mp cn
        simp [f_L_beds_b91, f_L_beds_b102, f_L_beds_b118, f_L_beds_b128, f_L_beds_b144, f_L_beds_b154, f_L_beds_b174, f_L_beds_b192, f_L_beds_b209, f_L_beds_b225, f_L_beds_b250, f_L_beds_b251, e5, e4, e3, ew, t1, t2, t3, t4, cn']
    · have t1 := nI_nz (show n < 2 ^ 31 by omega)
      have t2 := nI_gt (c := 6) 6 rfl n2 (by decide)
      have t3 := nI_nn (show n < 2 ^ 31 by omega)
      rw [k0, kn]
      by_cases cn : gB p b 3 ≤ need p (-1)
      · rw [hd, decide_eq_true cn] at e4
        have cn' : ¬ need p (-1) < gB p b 3 := Int32.not_lt.mpr cn
        simp [f_L_beds_b91, f_L_beds_b102, f_L_beds_b118, f_L_beds_b128, f_L_beds_b144, f_L_beds_b154, f_L_beds_b174, f_L_beds_b192, f_L_beds_b209, f_L_beds_b225, f_L_beds_b250, f_L_beds_b251, e5, e4, e3, ew, t1, t2, t3, t4, cn']
      · rw [hd, decide_eq_false cn] at e4
        have cn' : need p (-1) < gB p b 3 := Int32.not_le.mp cn
        simp [f_L_beds_b91, f_L_beds_b102, f_L_beds_b118, f_L_beds_b128, f_L_beds_b144, f_L_beds_b154, f_L_beds_b174, f_L_beds_b192, f_L_beds_b209, f_L_beds_b225, f_L_beds_b250, f_L_beds_b251, e5, e4, e3, ew, t1, t2, t3, t4, cn']
def stc (p : Nat → Int32) (v : Int32) (k : Nat) : Nat := ct (fun b => decide (gB p b 0 = v)) k
theorem stc_s {v : Int32} : stc p v (k + 1) = stc p v k + (if gB p k 0 = v then 1 else 0) := by
  show ct _ k + (if decide (gB p k 0 = v) then 1 else 0) = _
  by_cases c : gB p k 0 = v
  · rw [if_pos c, if_pos (decide_eq_true c)]
    rfl
  · rw [if_neg c, if_neg (fun z => c (of_decide_eq_true z))]
    rfl
theorem ct_s {P : Nat → Bool} : ct P (k + 1) = ct P k + (if P k then 1 else 0) := rfl
theorem beds_l1 (h : J28 B μ0 p) : ∀ (n k fu : Nat) (μ : Mem), k + n = 32 → n < fu → (∀ z, z < 85 → μ z = μ0 z) → (∀ i, i < 3 → μ 85 i = nI (stc p (nI i) k)) → ∃ μ', f_L_beds_b11 fu (nI (ct (dg p) k)) (nI (ct (fun b => decide (gB p b 4 = 1)) k)) (nI k) μ = (f_X6_nextBed 0 μ').bind (fun v1 => f_L_beds_b271 33 (nI (nfree p)) (nI (nNew p)) v1 0 μ') ∧ (∀ z, z < 85 → μ' z = μ0 z) ∧ (∀ i, i < 3 → μ' 85 i = nI (stc p (nI i) 32)) := by
  intro n
  induction n with
  | zero =>
    intro k fu μ hk hf e1 e2
    obtain ⟨fu, rfl⟩ : ∃ z, fu = z + 1 := ⟨fu - 1, by omega⟩
    have ek : k = 32 := by omega
    subst ek
    refine ⟨μ, ?_, e1, e2⟩
    rw [f_L_beds_b11, if_pos (by decide)]
    rfl
  | succ n ih =>
    intro k fu μ hk hf e1 e2
    obtain ⟨fu, rfl⟩ : ∃ z, fu = z + 1 := ⟨fu - 1, by omega⟩
    have hb : k < 32 := by omega
    have hJ := h.fr e1
    obtain ⟨s, hs, es⟩ : ∃ s, s < 3 ∧ gB p k 0 = nI s := by
      rcases (hJ.2.1.2.1 k hb).1 with c | c | c
      · exact ⟨0, by decide, c⟩
      · exact ⟨1, by decide, c⟩
      · exact ⟨2, by decide, c⟩
    obtain ⟨μ1, em⟩ : ∃ μ1, μ1 = mst μ 85 s (μ 85 s + 1) := ⟨_, rfl⟩
    have e1' : ∀ z, z < 85 → μ1 z = μ0 z := fun z hz => by
      rw [em, mst_ne (by omega)]
      exact e1 z hz
    have hJ1 := h.fr e1'
    have e2' : ∀ i, i < 3 → μ1 85 i = nI (stc p (nI i) (k + 1)) := fun i hi => by
      rw [em, mst_eq, stc_s, es]
      by_cases c : i = s
      · rw [c, upd_eq, e2 s hs, if_pos rfl, nI_1]
      · rw [upd_ne c, e2 i hi, if_neg (fun z => c (nI_inj (by omega) (by omega) z).symm)]
        rfl
    obtain ⟨μ', a1, a2, a3⟩ := ih (k + 1) fu μ1 (by omega) (by omega) e1' e2'
    refine ⟨μ', ?_, a2, a3⟩
    have hbody := bed_body (K := f_L_beds_b11 fu) (x2 := nI (ct (dg p) k) + (if dg p k then 1 else 0)) (x3 := nI (ct (fun b => decide (gB p b 4 = 1)) k) + gB p k 4) hJ1 hb
    have x2e : nI (ct (dg p) k) + (if dg p k then 1 else 0) = nI (ct (dg p) (k + 1)) := by
      rw [ct_s]
      split
      · exact nI_1 _
      · exact Int32.add_zero _
    have x3e : nI (ct (fun b => decide (gB p b 4 = 1)) k) + gB p k 4 = nI (ct (fun b => decide (gB p b 4 = 1)) (k + 1)) := by
      rw [ct_s]
      rcases (hJ.2.1.2.1 k hb).2.1 with c | c
      · rw [c]
        exact Int32.add_zero _
      · rw [c]
        exact nI_1 _
    rw [x2e, x3e, nI_1] at hbody
    rw [f_L_beds_b11, if_neg (nlI (c := 32) 32 k rfl hb (by omega)), bed0 hJ hb, Option.bind_some, es, rd_n hs (by decide), Option.bind_some, wr_n hs (by decide), Option.bind_some, ← em, bed4 hJ1 hb, Option.bind_some, bed5 hJ1 hb, Option.bind_some, bed1 hJ1 hb, Option.bind_some, bed2 hJ1 hb, Option.bind_some, bed3 hJ1 hb, Option.bind_some, ← es, x2e, x3e]
    exact hbody.trans a1
theorem beds_l2 (h : J28 B μ p) (hn : nxt p = some f) : ∀ (n k fu : Nat), k + n = 32 → n < fu → f_L_beds_b271 fu x2 x3 (nI f) (nI k) μ = f_L_beds_b405 x2 x3 (nI f) μ := by
  have hf := nxt_lt hn
  have hs := nxt_spec hn
  intro n
  induction n with
  | zero =>
    intro k fu hk hfu
    obtain ⟨fu, rfl⟩ : ∃ z, fu = z + 1 := ⟨fu - 1, by omega⟩
    rw [f_L_beds_b271, if_pos (lI (c := 32) 32 k rfl (by omega) (by omega))]
  | succ n ih =>
    intro k fu hk hfu
    obtain ⟨fu, rfl⟩ : ∃ z, fu = z + 1 := ⟨fu - 1, by omega⟩
    have hb : k < 32 := by omega
    have t := nI_nn (show f < 2 ^ 31 by omega)
    have next : f_L_beds_b271 fu x2 x3 (nI f) (nI k + 1) μ = f_L_beds_b405 x2 x3 (nI f) μ := by
      rw [nI_1]
      exact ih (k + 1) fu (by omega) (by omega)
    have key : ∀ x6 : Int32, (x6 = 0 ∨ gB p k 0 = 0) → f_L_beds_b301 (f_L_beds_b271 fu) x2 x3 (nI f) (nI k) x6 μ = f_L_beds_b405 x2 x3 (nI f) μ := fun x6 h6 => by
      unfold f_L_beds_b301
      rw [bed4 h hb, Option.bind_some]
      have k319 : ∀ s0 : Int32, (s0 = 0 ∨ dg p k = true) → f_L_beds_b319 (f_L_beds_b271 fu) x2 x3 (nI f) (nI k) x6 s0 μ = f_L_beds_b405 x2 x3 (nI f) μ := fun s0 h0 => by
        unfold f_L_beds_b319 f_L_beds_b399
        rw [bed0 h hf, Option.bind_some, next]
        rcases hs with ⟨a1, a2, a3⟩ | ⟨a1, a2⟩
        · rw [if_pos a1, if_pos (h0.resolve_right (by rw [a2 k hb]; decide))]
          by_cases c6 : x6 = 0
          · rw [if_pos c6]
          · rw [if_neg c6, if_pos (nI_le (a3 k hb (h6.resolve_left c6)) (by omega))]
        · have f2 : gB p f 0 = 2 := of_decide_eq_true (Bool.and_eq_true_iff.mp a1).1
          rw [if_neg (by rw [f2]; decide)]
          by_cases c0 : s0 = 0
          · rw [if_pos c0]
          · have hk2 := h0.resolve_left c0
            have b2 : gB p k 0 = 2 := of_decide_eq_true (Bool.and_eq_true_iff.mp hk2).1
            obtain ⟨q1, q2⟩ := a2 k hb hk2
            rw [if_neg c0, bed3 h hb, Option.bind_some, bed3 h hf, Option.bind_some, if_pos b2, if_pos f2, if_neg (Int32.not_lt.mpr q1), Option.bind_some, Option.bind_some]
            by_cases c : gB p k 3 = gB p f 3
            · rw [if_pos c, if_pos (nI_le (q2 c) (by omega))]
            · rw [if_neg c]
      by_cases c : dg p k = true
      · rw [if_pos c, if_pos rfl]
        exact k319 1 (Or.inr c)
      · rw [if_neg c, if_neg (by decide)]
        exact k319 0 (Or.inl rfl)
    rw [f_L_beds_b271, if_neg (nlI (c := 32) 32 k rfl hb (by omega)), if_neg t, bed0 h hb, Option.bind_some]
    by_cases c : gB p k 0 = 0
    · rw [if_pos c]
      exact key 1 (Or.inr c)
    · rw [if_neg c]
      exact key 0 (Or.inl rfl)
theorem stc_sum (hB : BedsOK p) : ∀ k, k ≤ 32 → stc p 0 k + stc p 1 k + stc p 2 k = k := by
  intro k
  induction k with
  | zero => intro _; rfl
  | succ k ih =>
    intro hk
    have q := ih (by omega)
    rw [stc_s, stc_s, stc_s]
    rcases (hB k (by omega)).1 with c | c | c <;> rw [c]
    · rw [if_pos rfl, if_neg (by decide), if_neg (by decide)]
      omega
    · rw [if_neg (by decide), if_pos rfl, if_neg (by decide)]
      omega
    · rw [if_neg (by decide), if_neg (by decide), if_pos rfl]
      omega
theorem many_sum : many p = nfree p + stc p 0 32 := by
  unfold many
  rw [ct_or 32 (fun j hj c => dg_nw c)]
  rfl
theorem nxt_many : nxt p = none ↔ many p = 0 := by
  constructor
  · intro h
    rcases Nat.eq_zero_or_pos (many p) with c | c
    · exact c
    · obtain ⟨b, hb⟩ := nxt_some c
      rw [h] at hb
      cases hb
  · intro h
    cases e : nxt p with
    | none => rfl
    | some f =>
      have hf := nxt_lt e
      have hP : (dg p f || wild p f) = true := by
        rcases nxt_ok e with c | c <;> rw [c]
        · rfl
        · exact Bool.or_true _
      have e1 := ct_drop (P := fun b => dg p b || wild p b) (Q := fun x => if x = f then false else (dg p x || wild p x)) 32 hf hP (if_pos rfl) (fun j _ hne => (if_neg hne).symm)
      unfold many at h
      omega
theorem beds_end (h : J28 B μ p) (e85 : ∀ i, i < 3 → μ 85 i = nI (stc p (nI i) 32)) : f_L_beds_b405 (nI (nfree p)) (nI (nNew p)) (oI (-1000) (nxt p)) μ = some (1, μ) := by
  have r0 : rd 3 (μ 85) 0 = some (nI (stc p 0 32)) := by
    rw [rd_c (i := 0) 0 rfl (by decide) (by decide), e85 0 (by decide)]
    rfl
  have r1 : rd 3 (μ 85) 1 = some (nI (stc p 1 32)) := by
    rw [rd_c (i := 1) 1 rfl (by decide) (by decide), e85 1 (by decide)]
    rfl
  have r2 : rd 3 (μ 85) 2 = some (nI (stc p 2 32)) := by
    rw [rd_c (i := 2) 2 rfl (by decide) (by decide), e85 2 (by decide)]
    rfl
  have hsum := stc_sum h.2.1.2.1 32 (Nat.le_refl _)
  have e32 : nI (stc p 0 32) + nI (stc p 1 32) + nI (stc p 2 32) = 32 := by
    rw [nI_add, nI_add, hsum]
    rfl
  have t0 : tst p 0 = nI (stc p 0 32) := rfl
  have t1 : tst p 1 = nI (stc p 1 32) := rfl
  have t2 : tst p 2 = nI (stc p 2 32) := rfl
  have hle : nfree p ≤ 32 := ct_le 32
  have hle0 : stc p 0 32 ≤ 32 := ct_le 32
  have e507 : f_L_beds_b507 1 μ = some (1, μ) := rfl
  unfold f_L_beds_b405
  rw [r0, Option.bind_some, wh0 h, Option.bind_some, t0, if_pos rfl, r1, Option.bind_some, wh1 h, Option.bind_some, t1, if_pos rfl, r2, Option.bind_some, wh2 h, Option.bind_some, t2, if_pos rfl, Option.bind_some, Option.bind_some, Option.bind_some, if_pos e32, wh3 h, Option.bind_some, if_pos rfl, wh9 h, Option.bind_some, if_pos rfl]
  unfold f_L_beds_b486 f_L_beds_b499
  rw [r0, Option.bind_some, Option.bind_some, nI_add]
  have hm := nxt_many (p := p)
  have hms := many_sum (p := p)
  cases e : nxt p with
  | none =>
    have h0 := hm.mp e
    rw [if_pos (show oI (-1000) none = -1000 from rfl), if_pos (by rw [show stc p 0 32 + nfree p = 0 by omega]; rfl), if_pos rfl]
    exact e507
  | some f =>
    have h0 : ¬ many p = 0 := fun z => by
      rw [hm.mpr z] at e
      cases e
    have hf := nxt_lt e
    rw [if_neg (show ¬ oI (-1000) (some f) = -1000 from nI_nn (by omega)), if_neg (nI_ne0 (by omega) (by omega)), if_pos rfl]
    exact e507
theorem beds_ok (h : J28 B μ p) : ∃ μ', f_L_beds μ = some (1, μ') ∧ ∀ z, z < 85 → μ' z = μ z := by
  obtain ⟨μ1, e1⟩ : ∃ μ1 : Mem, μ1 = fun k => if k = 85 then (fun _ => 0) else μ k := ⟨_, rfl⟩
  have f1 : ∀ z, z < 85 → μ1 z = μ z := fun z hz => by
    rw [e1]
    exact if_neg (by omega)
  have f2 : ∀ i, i < 3 → μ1 85 i = nI (stc p (nI i) 0) := fun i hi => by
    rw [e1]
    rfl
  obtain ⟨μ', a1, a2, a3⟩ := beds_l1 h 32 0 33 μ1 (by omega) (by decide) f1 f2
  refine ⟨μ', ?_, a2⟩
  have hJ := h.fr a2
  have ez : f_L_beds μ = f_L_beds_b11 33 (nI (ct (dg p) 0)) (nI (ct (fun b => decide (gB p b 4 = 1)) 0)) (nI 0) μ1 := by
    rw [e1]
    rfl
  rw [ez, a1, next_e hJ, Option.bind_some]
  have hend := beds_end hJ a3
  cases e : nxt p with
  | none =>
    rw [e] at hend
    rw [show (33 : Nat) = 32 + 1 from rfl, f_L_beds_b271, if_neg (by decide), if_pos (show oI (-1000) none = -1000 from rfl)]
    exact hend
  | some f =>
    rw [e] at hend
    have q := beds_l2 (x2 := nI (nfree p)) (x3 := nI (nNew p)) hJ e 32 0 33 (by omega) (by decide)
    rw [nI_0] at q
    exact q.trans hend
end PZBED
