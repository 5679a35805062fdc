/-! PURE, runCommands on both sides -/
section PTX4
variable {i j k n e c len f x : Nat} {μ μ' : Mem} {v w : Int32} {b : Nat → Int32} {B : Int} {p : Nat → Int32} {hh : Int64}
theorem bsm {α : Type} {y : Option α} : y.bind (fun v => some v) = y := by cases y <;> rfl
theorem bsm2 {y : Option (Int32 × Mem)} : bn2 y (fun v μ => some (v, μ)) = y := by cases y <;> rfl
theorem bsm3 {y : Option (Int32 × Mem)} : bn2 y (fun _ μ => f_X6_perform_b168 0 μ) = bn2 y (fun _ μ => some μ) := rfl
theorem R3k : ∀ kc km, R3 kc km → kc ≠ 0 := fun kc km h => by rw [h.1]; decide
theorem R23k : ∀ kc km, R23 kc km → kc ≠ 0 := fun kc km h => by rcases h with h | h <;> rw [h.1] <;> decide
theorem R13k : ∀ kc km, R13 kc km → kc ≠ 0 := fun kc km h => by rcases h with h | h <;> rw [h.1] <;> decide
def Cmd (c : Nat) (v w : Int32) (B : Int) : Prop := ∃ (FC : Mem → Option Int32) (PC : Mem → Option (Int32 × Mem)) (MD : Nat → Mem → Option (Int32 × Mem)) (R : Int32 → Int32 → Prop), RNZ R ∧ (∀ kc km, R kc km → kc ≠ 0) ∧ (∀ (μ : Mem) (p : Nat → Int32), RG 1 μ p → INV B p → DoS FC PC MD R 1 μ p (B + 1)) ∧ (∀ μ : Mem, (1 ≤ kN c → μ 83 5 = v) → (kN c = 2 → μ 83 6 = w) → f_X6_faultOf 0 (nI c) μ = FC μ) ∧ (∀ μ : Mem, (1 ≤ kN c → μ 83 5 = v) → (kN c = 2 → μ 83 6 = w) → f_X6_perform 0 (nI c) μ = bn2 (PC μ) (fun _ μ => some μ)) ∧ (∀ μ : Mem, μ 85 10 = nI c → (1 ≤ kN c → μ 91 0 = v) → (kN c = 2 → μ 91 1 = w) → f_X7_does 85 μ = MD 85 μ)
theorem cmd_1 (hB : B < 1000000) : Cmd 1 v w B := by
  refine ⟨f_X4_beginFault 1, f_X4_beginDraft 1, fun q m => f_X7_doBegin q m, R3, RNZ3, R3k, fun μ p hG hI => (do_begin hG hI).weaken (by omega), fun μ h1 h2 => ?_, fun μ h1 h2 => ?_, fun μ h0 h1 h2 => ?_⟩
  · unfold f_X6_faultOf
    rw [if_neg (show ¬ nI 1 = (0 : Int32) by decide), show en (nI 1) = some (nI 1) from rfl, Option.bind_some, if_pos (show nI 1 = (1 : Int32) by decide), bsm]
  · unfold f_X6_perform
    rw [if_neg (show ¬ nI 1 = (0 : Int32) by decide), show en (nI 1) = some (nI 1) from rfl, Option.bind_some, if_pos (show nI 1 = (1 : Int32) by decide), bsm3]
  · unfold f_X7_does
    rw [h0, if_pos (show nI 1 = (1 : Int32) by decide), bsm2]
theorem cmd_2 (hB : B < 1000000) : Cmd 2 v w B := by
  refine ⟨f_X4_putFault 1 v w, f_X4_putEntry 1 v w, fun q m => f_X7_doPut q v w m, R23, RNZ23, R23k, fun μ p hG hI => (do_put hG hI).weaken (by omega), fun μ h1 h2 => ?_, fun μ h1 h2 => ?_, fun μ h0 h1 h2 => ?_⟩
  · unfold f_X6_faultOf
    rw [if_neg (show ¬ nI 2 = (0 : Int32) by decide), show en (nI 2) = some (nI 2) from rfl, Option.bind_some, if_neg (show ¬ nI 2 = (1 : Int32) by decide), if_pos (show nI 2 = (2 : Int32) by decide), bsm, show μ (0 + 83) 5 = v from h1 (by decide), show μ (0 + 83) 6 = w from h2 rfl]
  · unfold f_X6_perform
    rw [if_neg (show ¬ nI 2 = (0 : Int32) by decide), show en (nI 2) = some (nI 2) from rfl, Option.bind_some, if_neg (show ¬ nI 2 = (1 : Int32) by decide), if_pos (show nI 2 = (2 : Int32) by decide), bsm3, show μ (0 + 83) 5 = v from h1 (by decide), show μ (0 + 83) 6 = w from h2 rfl]
  · unfold f_X7_does
    rw [h0, if_neg (show ¬ nI 2 = (1 : Int32) by decide), if_pos (show nI 2 = (2 : Int32) by decide), rd_c (i := 0) 0 rfl (by decide) (by decide), show μ (85 + 6) 0 = v from h1 (by decide), Option.bind_some, rd_c (i := 1) 1 rfl (by decide) (by decide), show μ (85 + 6) 1 = w from h2 rfl, Option.bind_some, bsm2]
theorem cmd_3 (hB : B < 1000000) : Cmd 3 v w B := by
  refine ⟨f_X4_removeFault 1 v, f_X4_removeEntry 1 v, fun q m => f_X7_doRemove q v m, R23, RNZ23, R23k, fun μ p hG hI => (do_remove hG hI).weaken (by omega), fun μ h1 h2 => ?_, fun μ h1 h2 => ?_, fun μ h0 h1 h2 => ?_⟩
  · unfold f_X6_faultOf
    rw [if_neg (show ¬ nI 3 = (0 : Int32) by decide), show en (nI 3) = some (nI 3) from rfl, Option.bind_some, if_neg (show ¬ nI 3 = (1 : Int32) by decide), if_neg (show ¬ nI 3 = (2 : Int32) by decide), if_pos (show nI 3 = (3 : Int32) by decide), bsm, show μ (0 + 83) 5 = v from h1 (by decide)]
  · unfold f_X6_perform
    rw [if_neg (show ¬ nI 3 = (0 : Int32) by decide), show en (nI 3) = some (nI 3) from rfl, Option.bind_some, if_neg (show ¬ nI 3 = (1 : Int32) by decide), if_neg (show ¬ nI 3 = (2 : Int32) by decide), if_pos (show nI 3 = (3 : Int32) by decide), bsm3, show μ (0 + 83) 5 = v from h1 (by decide)]
  · unfold f_X7_does
    rw [h0, if_neg (show ¬ nI 3 = (1 : Int32) by decide), if_neg (show ¬ nI 3 = (2 : Int32) by decide), if_pos (show nI 3 = (3 : Int32) by decide), rd_c (i := 0) 0 rfl (by decide) (by decide), show μ (85 + 6) 0 = v from h1 (by decide), Option.bind_some, bsm2]
theorem cmd_4 (hB : B < 1000000) : Cmd 4 v w B := by
  refine ⟨f_X4_commitFault 1 v, f_X4_commitDraft 1 v, fun q m => f_X7_doCommit q v m, R23, RNZ23, R23k, fun μ p hG hI => (do_commit hG hI hB), fun μ h1 h2 => ?_, fun μ h1 h2 => ?_, fun μ h0 h1 h2 => ?_⟩
  · unfold f_X6_faultOf
    rw [if_neg (show ¬ nI 4 = (0 : Int32) by decide), show en (nI 4) = some (nI 4) from rfl, Option.bind_some, if_neg (show ¬ nI 4 = (1 : Int32) by decide), if_neg (show ¬ nI 4 = (2 : Int32) by decide), if_neg (show ¬ nI 4 = (3 : Int32) by decide), if_pos (show nI 4 = (4 : Int32) by decide), bsm, show μ (0 + 83) 5 = v from h1 (by decide)]
  · unfold f_X6_perform
    rw [if_neg (show ¬ nI 4 = (0 : Int32) by decide), show en (nI 4) = some (nI 4) from rfl, Option.bind_some, if_neg (show ¬ nI 4 = (1 : Int32) by decide), if_neg (show ¬ nI 4 = (2 : Int32) by decide), if_neg (show ¬ nI 4 = (3 : Int32) by decide), if_pos (show nI 4 = (4 : Int32) by decide), bsm3, show μ (0 + 83) 5 = v from h1 (by decide)]
  · unfold f_X7_does
    rw [h0, if_neg (show ¬ nI 4 = (1 : Int32) by decide), if_neg (show ¬ nI 4 = (2 : Int32) by decide), if_neg (show ¬ nI 4 = (3 : Int32) by decide), if_pos (show nI 4 = (4 : Int32) by decide), rd_c (i := 0) 0 rfl (by decide) (by decide), show μ (85 + 6) 0 = v from h1 (by decide), Option.bind_some, bsm2]
theorem cmd_5 (hB : B < 1000000) : Cmd 5 v w B := by
  refine ⟨f_X4_abortFault 1, f_X4_dropDraft 1, fun q m => f_X7_doAbort q m, R3, RNZ3, R3k, fun μ p hG hI => (do_abort hG hI).weaken (by omega), fun μ h1 h2 => ?_, fun μ h1 h2 => ?_, fun μ h0 h1 h2 => ?_⟩
  · unfold f_X6_faultOf
    rw [if_neg (show ¬ nI 5 = (0 : Int32) by decide), show en (nI 5) = some (nI 5) from rfl, Option.bind_some, if_neg (show ¬ nI 5 = (1 : Int32) by decide), if_neg (show ¬ nI 5 = (2 : Int32) by decide), if_neg (show ¬ nI 5 = (3 : Int32) by decide), if_neg (show ¬ nI 5 = (4 : Int32) by decide), if_pos (show nI 5 = (5 : Int32) by decide), bsm]
  · unfold f_X6_perform
    rw [if_neg (show ¬ nI 5 = (0 : Int32) by decide), show en (nI 5) = some (nI 5) from rfl, Option.bind_some, if_neg (show ¬ nI 5 = (1 : Int32) by decide), if_neg (show ¬ nI 5 = (2 : Int32) by decide), if_neg (show ¬ nI 5 = (3 : Int32) by decide), if_neg (show ¬ nI 5 = (4 : Int32) by decide), if_pos (show nI 5 = (5 : Int32) by decide), bsm3]
  · unfold f_X7_does
    rw [h0, if_neg (show ¬ nI 5 = (1 : Int32) by decide), if_neg (show ¬ nI 5 = (2 : Int32) by decide), if_neg (show ¬ nI 5 = (3 : Int32) by decide), if_neg (show ¬ nI 5 = (4 : Int32) by decide), if_pos (show nI 5 = (5 : Int32) by decide), bsm2]
theorem cmd_6 (hB : B < 1000000) : Cmd 6 v w B := by
  refine ⟨f_X4_openFault 1, f_X4_openReader 1, fun q m => f_X7_doOpen q m, R3, RNZ3, R3k, fun μ p hG hI => (do_open hG hI).weaken (by omega), fun μ h1 h2 => ?_, fun μ h1 h2 => ?_, fun μ h0 h1 h2 => ?_⟩
  · unfold f_X6_faultOf
    rw [if_neg (show ¬ nI 6 = (0 : Int32) by decide), show en (nI 6) = some (nI 6) from rfl, Option.bind_some, if_neg (show ¬ nI 6 = (1 : Int32) by decide), if_neg (show ¬ nI 6 = (2 : Int32) by decide), if_neg (show ¬ nI 6 = (3 : Int32) by decide), if_neg (show ¬ nI 6 = (4 : Int32) by decide), if_neg (show ¬ nI 6 = (5 : Int32) by decide), if_pos (show nI 6 = (6 : Int32) by decide), bsm]
  · unfold f_X6_perform
    rw [if_neg (show ¬ nI 6 = (0 : Int32) by decide), show en (nI 6) = some (nI 6) from rfl, Option.bind_some, if_neg (show ¬ nI 6 = (1 : Int32) by decide), if_neg (show ¬ nI 6 = (2 : Int32) by decide), if_neg (show ¬ nI 6 = (3 : Int32) by decide), if_neg (show ¬ nI 6 = (4 : Int32) by decide), if_neg (show ¬ nI 6 = (5 : Int32) by decide), if_pos (show nI 6 = (6 : Int32) by decide), bsm3]
  · unfold f_X7_does
    rw [h0, if_neg (show ¬ nI 6 = (1 : Int32) by decide), if_neg (show ¬ nI 6 = (2 : Int32) by decide), if_neg (show ¬ nI 6 = (3 : Int32) by decide), if_neg (show ¬ nI 6 = (4 : Int32) by decide), if_neg (show ¬ nI 6 = (5 : Int32) by decide), if_pos (show nI 6 = (6 : Int32) by decide), bsm2]
theorem cmd_7 (hB : B < 1000000) : Cmd 7 v w B := by
  refine ⟨f_X4_openReaderFault 1 v, f_X4_closeReader 1 v, fun q m => f_X7_doClose q v m, R13, RNZ13, R13k, fun μ p hG hI => (do_close hG hI).weaken (by omega), fun μ h1 h2 => ?_, fun μ h1 h2 => ?_, fun μ h0 h1 h2 => ?_⟩
  · unfold f_X6_faultOf
    rw [if_neg (show ¬ nI 7 = (0 : Int32) by decide), show en (nI 7) = some (nI 7) from rfl, Option.bind_some, if_neg (show ¬ nI 7 = (1 : Int32) by decide), if_neg (show ¬ nI 7 = (2 : Int32) by decide), if_neg (show ¬ nI 7 = (3 : Int32) by decide), if_neg (show ¬ nI 7 = (4 : Int32) by decide), if_neg (show ¬ nI 7 = (5 : Int32) by decide), if_neg (show ¬ nI 7 = (6 : Int32) by decide), if_pos (show nI 7 = (7 : Int32) by decide), bsm, show μ (0 + 83) 5 = v from h1 (by decide)]
  · unfold f_X6_perform
    rw [if_neg (show ¬ nI 7 = (0 : Int32) by decide), show en (nI 7) = some (nI 7) from rfl, Option.bind_some, if_neg (show ¬ nI 7 = (1 : Int32) by decide), if_neg (show ¬ nI 7 = (2 : Int32) by decide), if_neg (show ¬ nI 7 = (3 : Int32) by decide), if_neg (show ¬ nI 7 = (4 : Int32) by decide), if_neg (show ¬ nI 7 = (5 : Int32) by decide), if_neg (show ¬ nI 7 = (6 : Int32) by decide), if_pos (show nI 7 = (7 : Int32) by decide), bsm3, show μ (0 + 83) 5 = v from h1 (by decide)]
  · unfold f_X7_does
    rw [h0, if_neg (show ¬ nI 7 = (1 : Int32) by decide), if_neg (show ¬ nI 7 = (2 : Int32) by decide), if_neg (show ¬ nI 7 = (3 : Int32) by decide), if_neg (show ¬ nI 7 = (4 : Int32) by decide), if_neg (show ¬ nI 7 = (5 : Int32) by decide), if_neg (show ¬ nI 7 = (6 : Int32) by decide), rd_c (i := 0) 0 rfl (by decide) (by decide), show μ (85 + 6) 0 = v from h1 (by decide), Option.bind_some, bsm2]
theorem cmd_n (hc : 1 ≤ c) (hc7 : c ≤ 7) (hB : B < 1000000) : Cmd c v w B := c7 (P := fun c => Cmd c v w B) (cmd_1 hB) (cmd_2 hB) (cmd_3 hB) (cmd_4 hB) (cmd_5 hB) (cmd_6 hB) (cmd_7 hB) hc hc7
/-- the fault of the text from place i on -/
def fl (b : Nat → Int32) (len : Nat) : Nat → Nat → Option Nat
  | 0, _ => none
  | n + 1, i => if SK b i < len then (match pc b (SK b i) with
    | Sum.inr f => some f
    | Sum.inl z => fl b len n z.2.2.2) else none
theorem nums_le {kk e' : Nat} (hB : BY b len) (he : e ≤ len) (hk : kk ≤ 2) (h : nums b kk e = Sum.inl (v, w, e')) : e ≤ e' ∧ e' ≤ len := by
  by_cases k0 : kk = 0
  · rw [k0, nums_0] at h
    cases h
    exact ⟨Nat.le_refl _, he⟩
  · cases hz : num b e with
    | inr f =>
      rw [nums_f k0 hz] at h
      cases h
    | inl z =>
      have z1 := num_le hB hz
      by_cases k1 : kk = 1
      · rw [k1, nums_1 hz] at h
        cases h
        exact ⟨by omega, z1.2⟩
      · have k2 : kk = 2 := by omega
        cases hy : num b z.2 with
        | inr f =>
          rw [k2, nums_2f hz hy] at h
          cases h
        | inl y =>
          have y1 := num_le hB hy
          rw [k2, nums_2 hz hy] at h
          cases h
          exact ⟨by omega, y1.2⟩
theorem pc_le (hB : BY b len) (hj : j ≤ len) (h : pc b j = Sum.inl (c, v, w, e)) : j < e ∧ e ≤ len := by
  by_cases c0 : cmdN b j (SL b j) = 0
  · rw [pc_0 c0] at h
    cases h
  · rw [pc_1 c0] at h
    have hsl := SL_le hB hj
    have hsg := SL_ge (b := b) (i := j)
    cases hn : nums b (kN (cmdN b j (SL b j))) (SL b j) with
    | inr f =>
      rw [hn] at h
      cases h
    | inl z =>
      obtain ⟨v2, w2, e2⟩ := z
      have h1 := nums_le hB hsl kN_le hn
      rw [hn] at h
      have hkg := SK_ge (b := b) (i := e2)
      by_cases c2 : b (SK b e2) = 59
      · have hlt := b32_lt hB (by decide) c2
        rw [fin_1 (z := (v2, w2, e2)) c2] at h
        cases h
        show j < SK b e2 + 1 ∧ SK b e2 + 1 ≤ len
        omega
      · rw [fin_0 (z := (v2, w2, e2)) c2] at h
        cases h
theorem fl_end (h : ¬ SK b i < len) : fl b len n i = none := by
  cases n with
  | zero => rfl
  | succ n => exact if_neg h
theorem fl_bad (h : SK b i < len) (hp : pc b (SK b i) = Sum.inr f) : fl b len (n + 1) i = some f := by
  show (if SK b i < len then (match pc b (SK b i) with
    | Sum.inr f => some f
    | Sum.inl z => fl b len n z.2.2.2) else none) = _
  rw [if_pos h, hp]
theorem fl_go {z : Nat × Int32 × Int32 × Nat} (h : SK b i < len) (hp : pc b (SK b i) = Sum.inl z) : fl b len (n + 1) i = fl b len n z.2.2.2 := by
  show (if SK b i < len then (match pc b (SK b i) with
    | Sum.inr f => some f
    | Sum.inl z => fl b len n z.2.2.2) else none) = _
  rw [if_pos h, hp]
theorem findFault_b6 : ∀ (n i k fu : Nat) (μ : Mem), CX 83 μ b len → μ 83 2 = nI i → μ 83 3 = -1000 → i ≤ len → k + n = 150 → len ≤ i + n → n < fu → ∃ μ', f_X3_findFault_b6 83 fu (nI k) μ = some (oI (-1000) (fl b len n i), μ') ∧ CF 83 μ μ' ∧ ∀ f, fl b len n i = some f → f ≤ len := by
  intro n
  induction n with
  | zero =>
    intro i k fu μ h h2 h3 hi hk hl hf
    obtain ⟨fu, rfl⟩ : ∃ z, fu = z + 1 := ⟨fu - 1, by omega⟩
    rw [f_X3_findFault_b6, if_pos (lI (c := 150) 150 k rfl (by omega) (by omega))]
    unfold f_X3_findFault_b26
    rw [h3]
    exact ⟨μ, rfl, CF.rf, fun f hf => by cases hf⟩
  | succ n ih =>
    intro i k fu μ h h2 h3 hi hk hl hf
    obtain ⟨fu, rfl⟩ : ∃ z, fu = z + 1 := ⟨fu - 1, by omega⟩
    rw [f_X3_findFault_b6, if_neg (nlI (c := 150) 150 k rfl (by omega) (by omega))]
    unfold f_X3_findFault_b26
    by_cases hj : SK b i < len
    · rcases scanCommand_n h h2 h3 hi hj with ⟨c, v, w, e, M, g1, g2, g3, g4, g5, g6, g7, g8, g9, g10, g11, g12⟩ | ⟨f, M, g1, g2, g3, g4, g5⟩
      · rw [g6, bn2_some, if_neg (by decide), nI_1, fl_go hj g1]
        obtain ⟨μ', e1, e2, e3⟩ := ih e (k + 1) fu M (h.cf g7) g8 g9 g5 (by omega) (by omega) (by omega)
        exact ⟨μ', e1, g7.tr e2, e3⟩
      · rw [g3, bn2_some, if_pos rfl, g5, fl_bad hj g1]
        exact ⟨M, rfl, g4, fun f' hf' => by cases hf'; exact g2⟩
    · rw [scanCommand_end h h2 hi hj, bn2_some, if_pos rfl, fl_end hj]
      refine ⟨mst μ 83 2 (nI (SK b i)), ?_, CF.ms (by decide), fun f hf => by cases hf⟩
      rw [mst_eq, upd_ne (by decide), h3]
      rfl
theorem findFault_n (h : CX 83 μ b len) : ∃ μ', f_X3_findFault 83 μ = some (oI (-1000) (fl b len 150 0), μ') ∧ CF 83 μ μ' ∧ ∀ f, fl b len 150 0 = some f → f ≤ len := by
  have h150 := h.1.1
  have f1 : CF 83 μ (mst (mst μ 83 2 0) 83 3 (-1000)) := (CF.ms (by decide)).tr (CF.ms (by decide))
  obtain ⟨μ', e1, e2, e3⟩ := findFault_b6 150 0 0 FU (mst (mst μ 83 2 0) 83 3 (-1000)) (h.cf f1) (by rw [mst_eq, upd_ne (by decide), mst_eq, upd_eq]; rfl) (by rw [mst_eq, upd_eq]) (Nat.zero_le _) (by omega) (by omega) (by decide)
  rw [nI_0] at e1
  refine ⟨μ', ?_, f1.tr e2, e3⟩
  unfold f_X3_findFault f_X3_rewind
  rw [pf_e, Option.bind_some, pf_e, Option.bind_some, Option.bind_some, e1]
def RunM (M : Mem) : Option (Int32 × Mem) := (f_X7_hold 85 M).bind (fun μ4 => (pf μ4 85 9 0).bind (fun μ5 => (f_X7_spaces 85 μ5).bind (fun μ6 => f_X7_runCommands_b62 85 FU 0 μ6)))
theorem run_b14 : ∀ (n i fu : Nat) (μ : Mem), MX 85 μ b len → μ 85 9 = nI (SK b i) → i ≤ len → len ≤ i + n → n < fu → (∃ f μ', fl b len n i = some f ∧ f_X7_runCommands_b14 85 fu μ = some (-10 - nI f, μ') ∧ MF 85 μ μ') ∨ (∃ M, fl b len n i = none ∧ f_X7_runCommands_b14 85 fu μ = RunM M ∧ MF 85 μ M) := by
  intro n
  induction n with
  | zero =>
    intro i fu μ h h9 hi hl hf
    obtain ⟨fu, rfl⟩ : ∃ z, fu = z + 1 := ⟨fu - 1, by omega⟩
    have h150 := h.1.1
    have hk := SK_le h.1 hi
    have hg := SK_ge (b := b) (i := i)
    rw [f_X7_runCommands_b14, h.2.1, h9, if_pos (nI_le (by omega) (by omega))]
    exact Or.inr ⟨μ, rfl, rfl, MF.rf⟩
  | succ n ih =>
    intro i fu μ h h9 hi hl hf
    obtain ⟨fu, rfl⟩ : ∃ z, fu = z + 1 := ⟨fu - 1, by omega⟩
    have h150 := h.1.1
    have hk := SK_le h.1 hi
    have hg := SK_ge (b := b) (i := i)
    rw [f_X7_runCommands_b14, h.2.1, h9]
    by_cases hj : SK b i < len
    · rw [if_neg (nI_ge hj (by omega))]
      rcases readCommand_n h h9 hk with ⟨c, v, w, e, M, g1, g2, g3, g4, g5, g6, g7⟩ | ⟨f, M, g1, g2, g3, g4⟩
      · have he : SK b i < e ∧ e ≤ len := pc_le h.1 hk g1
        have hM := h.mf g3
        have hke := SK_le h.1 he.2
        rw [g2, bn2_some, if_neg (by decide), spaces_n hM g4 (by omega), Option.bind_some, fl_go hj g1]
        rcases ih e fu (mst M 85 9 (nI (SK b e))) (hM.m9 (by decide)) (by rw [mst_eq, upd_eq]) he.2 (by omega) (by omega) with ⟨f, μ', e1, e2, e3⟩ | ⟨N, e1, e2, e3⟩
        · exact Or.inl ⟨f, μ', e1, e2, (g3.tr (MF.ms (Or.inl rfl))).tr e3⟩
        · exact Or.inr ⟨N, e1, e2, (g3.tr (MF.ms (Or.inl rfl))).tr e3⟩
      · rw [g2, bn2_some, if_pos rfl, fl_bad hj g1, g4]
        exact Or.inl ⟨f, M, rfl, rfl, g3⟩
    · rw [if_pos (nI_le (by omega) (by omega)), fl_end hj]
      exact Or.inr ⟨μ, rfl, rfl, MF.rf⟩
/-- the two sides run the commands -/
theorem run_loop : ∀ (n i k fu : Nat) (μc : Mem) (p : Nat → Int32) (B : Int), CX 83 μc b len → μc 83 2 = nI i → μc 83 3 = -1000 → i ≤ len → k + n = 150 → len ≤ i + n → fl b len n i = none → n < fu → RG 1 μc p → INV B p → B + n < 900000 → ∃ (r : Nat) (μc' : Mem) (p' : Nat → Int32), f_X6_runCommands_b40 0 fu (nI k) μc = some (nI r, μc') ∧ RG 1 μc' p' ∧ INV (B + n) p' ∧ (∀ z, (z < 1 ∨ 17 ≤ z) → z ≠ 83 → μc' z = μc z) ∧ μc' 83 1 = μc 83 1 ∧ ∀ (fu' : Nat) (μm : Mem), n + 1 < fu' → MX 85 μm b len → μm 85 9 = nI (SK b i) → μm 86 = p → μm 85 7 = 0 → ∃ M, f_X7_runCommands_b62 85 fu' (nI k) μm = f_X7_runCommands_b116 85 (nI r) M ∧ M 86 = p' ∧ (∀ z, z ≠ 85 → z ≠ 86 → z ≠ 90 → z ≠ 91 → M z = μm z) ∧ ∀ y, y ≠ 7 → y ≠ 9 → y ≠ 10 → M 85 y = μm 85 y := by
  intro n
  induction n with
  | zero =>
    intro i k fu μc p B h h2 h3 hi hk hl hfl hf hG hI hB
    obtain ⟨fu, rfl⟩ : ∃ z, fu = z + 1 := ⟨fu - 1, by omega⟩
    have h150 := h.1.1
    have hk2 := SK_le h.1 hi
    have hg := SK_ge (b := b) (i := i)
    refine ⟨k, μc, p, ?_, hG, hI.weaken (by omega), fun _ _ _ => rfl, rfl, fun fu' μm hf' hM m9 m86 m7 => ⟨μm, ?_, m86, fun _ _ _ _ _ => rfl, fun _ _ _ _ => rfl⟩⟩
    · rw [f_X6_runCommands_b40, if_pos (lI (c := 150) 150 k rfl (by omega) (by omega))]
      rfl
    · obtain ⟨fu', rfl⟩ : ∃ z, fu' = z + 1 := ⟨fu' - 1, by omega⟩
      rw [f_X7_runCommands_b62, hM.2.1, m9, if_pos (nI_le (by omega) (by omega))]
  | succ n ih =>
    intro i k fu μc p B h h2 h3 hi hk hl hfl hf hG hI hB
    obtain ⟨fu, rfl⟩ : ∃ z, fu = z + 1 := ⟨fu - 1, by omega⟩
    have h150 := h.1.1
    have hk2 := SK_le h.1 hi
    have hg := SK_ge (b := b) (i := i)
    by_cases hj : SK b i < len
    · rcases scanCommand_n h h2 h3 hi hj with ⟨c, v, w, e, M6, g1, g2, g3, g4, g5, g6, g7, g8, g9, g10, g11, g12⟩ | ⟨f, M6, g1, -⟩
      · rw [fl_go hj g1] at hfl
        obtain ⟨FC, PC, MD, R, q1, q2, q3, q4, q5, q6⟩ := cmd_n (v := v) (w := w) (B := B) g2 g3 (by omega)
        have hG6 : RG 1 M6 p := hG.fr16 (fun z z1 z2 => g7.1 z (by omega))
        have hcls : f_X6_runCommands_b40 0 (fu + 1) (nI k) μc = (FC M6).bind (fun v7 => (if v7 = 0 then (bn2 (PC M6) (fun _ μ => some μ)).bind (fun μ8 => f_X6_runCommands_b40 0 fu (nI (k + 1)) μ8) else f_X6_runCommands_b88 0 (nI k) M6)) := by
          rw [f_X6_runCommands_b40, if_neg (nlI (c := 150) 150 k rfl (by omega) (by omega)), Nat.zero_add, g6, bn2_some, if_neg (by decide), g10, q4 M6 g11 g12, q5 M6 g11 g12, nI_1]
        have he : SK b i < e ∧ e ≤ len := pc_le h.1 hk2 g1
        have hke := SK_le h.1 he.2
        have hmod : ∀ (fu' : Nat) (μm : Mem), MX 85 μm b len → μm 85 9 = nI (SK b i) → μm 85 7 = 0 → ∃ M11, MX 85 M11 b len ∧ MF 85 μm M11 ∧ M11 85 9 = nI e ∧ f_X7_runCommands_b62 85 (fu' + 1) (nI k) μm = bn2 (MD 85 M11) (fun v12 μ13 => (if (μ13 85 7) = 0 then f_X7_runCommands_b107 85 (f_X7_runCommands_b62 85 fu') 1 (nI k) μ13 else f_X7_runCommands_b106 85 (f_X7_runCommands_b62 85 fu') (nI k) μ13)) := fun fu' μm hM m9 m7 => by
          rcases readCommand_n hM m9 hk2 with ⟨c', v', w', e', M11, s1, s2, s3, s4, s5, s6, s7⟩ | ⟨f, M11, s1, -⟩
          · rw [g1] at s1
            have z := Sum.inl.inj s1
            obtain ⟨z1, z2, z3, z4⟩ : c = c' ∧ v = v' ∧ w = w' ∧ e = e' := by
              have y1 := Prod.mk.inj z
              have y2 := Prod.mk.inj y1.2
              have y3 := Prod.mk.inj y2.2
              exact ⟨y1.1, y2.1, y3.1, y3.2⟩
            subst z1 z2 z3 z4
            refine ⟨M11, hM.mf s3, s3, s4, ?_⟩
            rw [f_X7_runCommands_b62, hM.2.1, m9, if_neg (nI_ge hj (by omega)), m7, if_pos rfl, s2, bn2_some, q6 M11 s5 s6 s7]
            congr 1
          · rw [g1] at s1
            cases s1
        rcases q3 M6 p hG6 hI with ⟨v2, p2, M8, y1, y2, y3, y4, y5, y6⟩ | ⟨kc, km, y1, y2, y3⟩
        · have r17 : ∀ z, 17 ≤ z → M8 z = M6 z := fun z hz => y4 z (by omega)
          have hX8 : CX 83 M8 b len := (h.cf g7).fr (by rw [r17 83 (by decide)]) (r17 (83 + 1) (by decide))
          obtain ⟨r, μc', p', t1, t2, t3, t4, t5, t6⟩ := ih e (k + 1) fu M8 p2 (B + 1) hX8 (by rw [r17 83 (by decide)]; exact g8) (by rw [r17 83 (by decide)]; exact g9) he.2 (by omega) (by omega) hfl (by omega) y3 y5 (by omega)
          refine ⟨r, μc', p', ?_, t2, t3.weaken (by omega), fun z z1 z2 => ?_, ?_, fun fu' μm hf' hM m9 m86 m7 => ?_⟩
          · rw [hcls, y1, Option.bind_some, if_pos rfl, y2, bn2_some, Option.bind_some, t1]
          · rw [t4 z z1 z2, y4 z (by omega), g7.1 z z2]
          · rw [t5, r17 83 (by decide), g7.2]
          · obtain ⟨fu', rfl⟩ : ∃ z, fu' = z + 1 := ⟨fu' - 1, by omega⟩
            obtain ⟨M11, a1, a2, a3, a4⟩ := hmod fu' μm hM m9 m7
            obtain ⟨f', a5⟩ := y6 85 M11 (M11 90)
            have e86 : M11 86 = p := (a2.1 86 (by decide) (by decide)).trans m86
            have er : rst (rst M11 (85 + 5) (M11 90)) (85 + 1) p = M11 := by
              have e1 : rst M11 (85 + 5) (M11 90) = M11 := rst_self (k := 90)
              rw [e1, ← e86]
              exact rst_self (k := 86)
            rw [er] at a5
            obtain ⟨M13, e13⟩ : ∃ M13, M13 = rst (rst M11 (85 + 5) f') (85 + 1) p2 := ⟨_, rfl⟩
            rw [← e13] at a5
            have o13 : ∀ z, z ≠ 86 → z ≠ 90 → M13 z = M11 z := fun z z1 z2 => by
              rw [e13, rst_ne (show z ≠ 85 + 1 from z1), rst_ne (show z ≠ 85 + 5 from z2)]
            have p13 : M13 86 = p2 := by
              rw [e13]
              exact rst_eq (k := 86)
            have s7 : M13 85 7 = 0 := by rw [o13 85 (by decide) (by decide), a2.2 7 (by decide) (by decide)]; exact m7
            have hX13 : MX 85 M13 b len := a1.fr (by rw [o13 85 (by decide) (by decide)]) (o13 (85 + 4) (by decide) (by decide))
            have s9 : M13 85 9 = nI e := by rw [o13 85 (by decide) (by decide)]; exact a3
            obtain ⟨N, n1, n2, n3, n4⟩ := t6 fu' (mst M13 85 9 (nI (SK b e))) (by omega) (hX13.m9 (by decide)) (by rw [mst_eq, upd_eq]) (by rw [mst_ne (by decide)]; exact p13) (by rw [mst_eq, upd_ne (by decide)]; exact s7)
            refine ⟨N, ?_, n2, fun z z1 z2 z3 z4 => ?_, fun y z1 z2 z3 => ?_⟩
            · rw [a4, a5, bn2_some, s7, if_pos rfl]
              unfold f_X7_runCommands_b107
              rw [spaces_n hX13 s9 (by omega), Option.bind_some, nI_1, n1]
            · rw [n3 z z1 z2 z3 z4, mst_ne z1, o13 z z2 z3, a2.1 z z1 (show z ≠ 85 + 6 from z4)]
            · rw [n4 y z1 z2 z3, mst_eq, upd_ne z2, o13 85 (by decide) (by decide), a2.2 y z2 z3]
        · refine ⟨k, M6, p, ?_, hG6, hI.weaken (by omega), fun z z1 z2 => g7.1 z z2, g7.2, fun fu' μm hf' hM m9 m86 m7 => ?_⟩
          · rw [hcls, y2, Option.bind_some, if_neg (q2 kc km y1)]
            rfl
          · obtain ⟨fu', rfl⟩ : ∃ z, fu' = z + 1 + 1 := ⟨fu' - 2, by omega⟩
            obtain ⟨M11, a1, a2, a3, a4⟩ := hmod (fu' + 1) μm hM m9 m7
            have e86 : M11 86 = p := (a2.1 86 (by decide) (by decide)).trans m86
            have a5 := y3 85 M11
            have er : rst M11 (85 + 1) p = M11 := by
              rw [← e86]
              exact rst_self (k := 86)
            rw [er] at a5
            have hX13 : MX 85 (mst M11 85 7 km) b len := a1.m9 (by decide)
            have s7 : mst M11 85 7 km 85 7 = km := by rw [mst_eq, upd_eq]
            have s9 : mst M11 85 7 km 85 9 = nI e := by rw [mst_eq, upd_ne (by decide)]; exact a3
            refine ⟨mst (mst M11 85 7 km) 85 9 (nI (SK b e)), ?_, ?_, fun z z1 z2 z3 z4 => ?_, fun y z1 z2 z3 => ?_⟩
            · rw [a4, a5, bn2_some, s7, if_neg (q1 kc km y1)]
              unfold f_X7_runCommands_b106 f_X7_runCommands_b107
              rw [spaces_n hX13 s9 (by omega), Option.bind_some, Int32.add_zero, f_X7_runCommands_b62]
              rw [show mst (mst M11 85 7 km) 85 9 (nI (SK b e)) 85 7 = km by rw [mst_eq, upd_ne (by decide)]; exact s7, if_neg (q1 kc km y1), ite_self]
            · rw [mst_ne (by decide), mst_ne (by decide)]
              exact e86
            · rw [mst_ne z1, mst_ne z1, a2.1 z z1 (show z ≠ 85 + 6 from z4)]
            · rw [mst_eq, upd_ne z2, mst_eq, upd_ne z1, a2.2 y z2 z3]
      · rw [fl_bad hj g1] at hfl
        cases hfl
    · refine ⟨k, mst μc 83 2 (nI (SK b i)), p, ?_, hG.fr16 (fun z z1 z2 => mst_ne (by omega)), hI.weaken (by omega), fun z z1 z2 => mst_ne z2, by rw [mst_eq, upd_ne (by decide)], fun fu' μm hf' hM m9 m86 m7 => ⟨μm, ?_, m86, fun _ _ _ _ _ => rfl, fun _ _ _ _ => rfl⟩⟩
      · rw [f_X6_runCommands_b40, if_neg (nlI (c := 150) 150 k rfl (by omega) (by omega)), Nat.zero_add, scanCommand_end h h2 hi hj, bn2_some, if_pos rfl]
        rfl
      · obtain ⟨fu', rfl⟩ : ∃ z, fu' = z + 1 := ⟨fu' - 1, by omega⟩
        rw [f_X7_runCommands_b62, hM.2.1, m9, if_pos (nI_le (by omega) (by omega))]
theorem st_22 (hn : n < 512) (hJ : Jinv n μ hh) : ∃ μ', St_22 μ μ' ∧ Jinv (n + 1) μ' hh := by
  have hJ0 := hJ
  obtain ⟨hG, hI, ⟨c, x, hH⟩, len, hT⟩ := hJ0
  have hT0 := hT
  obtain ⟨t1, t2, t3, t4⟩ := hT0
  obtain ⟨b, eb⟩ : ∃ b : Nat → Int32, b = fun i => if i < len then μ 84 i else -1 := ⟨_, rfl⟩
  have b1 : ∀ i, i < len → b i = μ 84 i := fun i hi => by rw [eb]; exact if_pos hi
  have hBY : BY b len := ⟨t1, fun i hi => by
    obtain ⟨k, k1, k2, k3⟩ := t4 i hi
    exact ⟨k, k1, by rw [b1 i hi, k2]⟩, fun i hi => by rw [eb]; exact if_neg (by omega)⟩
  have hX : CX 83 μ b len := ⟨hBY, t2, fun i hi => (b1 i hi).symm⟩
  have mx : ∀ μ' : Mem, μ' 85 5 = μ 85 5 → μ' 89 = μ 89 → MX 85 μ' b len := fun μ' h1 h2 => ⟨hBY, h1.trans t3, fun i hi => by
    obtain ⟨k, k1, k2, k3⟩ := t4 i hi
    show μ' 89 i = b i
    rw [h2, b1 i hi, k2, k3]⟩
  obtain ⟨μ2, f1, f2, f3⟩ := findFault_n hX
  -- the model's first pass over any memory with this text
  have first : ∀ μ5 : Mem, μ5 85 5 = μ 85 5 → μ5 89 = μ 89 → (∃ f μ', fl b len 150 0 = some f ∧ f_X7_runCommands 85 μ5 = some (-10 - nI f, μ') ∧ (∀ z, z ≠ 85 → z ≠ 91 → μ' z = μ5 z) ∧ ∀ y, y ≠ 6 → y ≠ 9 → y ≠ 10 → μ' 85 y = μ5 85 y) ∨ (∃ M, fl b len 150 0 = none ∧ f_X7_runCommands 85 μ5 = RunM M ∧ (∀ z, z ≠ 85 → z ≠ 91 → M z = μ5 z) ∧ ∀ y, y ≠ 6 → y ≠ 9 → y ≠ 10 → M 85 y = μ5 85 y) := fun μ5 h5 h9 => by
    obtain ⟨N, eN⟩ : ∃ N, N = mst (mst (mst μ5 85 6 0) 85 9 0) 85 9 (nI (SK b 0)) := ⟨_, rfl⟩
    have m0 : MX 85 (mst (mst μ5 85 6 0) 85 9 0) b len := ((mx μ5 h5 h9).m9 (by decide)).m9 (by decide)
    have m9 : mst (mst μ5 85 6 0) 85 9 0 85 9 = nI 0 := by rw [mst_eq, upd_eq]; rfl
    have hN : MX 85 N b len := by rw [eN]; exact m0.m9 (by decide)
    have oN : ∀ z, z ≠ 85 → N z = μ5 z := fun z hz => by rw [eN, mst_ne hz, mst_ne hz, mst_ne hz]
    have oN2 : ∀ y, y ≠ 6 → y ≠ 9 → N 85 y = μ5 85 y := fun y y1 y2 => by rw [eN, mst_eq, upd_ne y2, mst_eq, upd_ne y2, mst_eq, upd_ne y1]
    have er : f_X7_runCommands 85 μ5 = f_X7_runCommands_b14 85 FU N := by
      unfold f_X7_runCommands
      rw [pf_e, Option.bind_some, pf_e, Option.bind_some, spaces_n m0 m9 (by decide), Option.bind_some, eN]
    rw [er]
    rcases run_b14 150 0 FU N hN (by rw [eN, mst_eq, upd_eq]) (Nat.zero_le _) (by omega) (by decide) with ⟨f, μ', e1, e2, e3⟩ | ⟨M, e1, e2, e3⟩
    · exact Or.inl ⟨f, μ', e1, e2, fun z z1 z2 => (e3.1 z z1 z2).trans (oN z z1), fun y y1 y2 y3 => (e3.2 y y2 y3).trans (oN2 y y1 y2)⟩
    · exact Or.inr ⟨M, e1, e2, fun z z1 z2 => (e3.1 z z1 z2).trans (oN z z1), fun y y1 y2 y3 => (e3.2 y y2 y3).trans (oN2 y y1 y2)⟩
  cases hfl : fl b len 150 0 with
  | some f =>
    have hf := f3 f hfl
    rcases first μ2 (by rw [f2.1 85 (by decide)]) (f2.1 89 (by decide)) with ⟨f', μ', e1, e2, e3, e4⟩ | ⟨M, e1, -⟩
    · rw [hfl] at e1
      cases e1
      refine ⟨μ', ⟨-10 - nI f, μ2, ?_, e2⟩, hJ.irr (fun z z1 z2 z3 z4 z5 => (e3 z z2 z5).trans (f2.1 z z1)) ?_ ?_ ?_⟩
      · unfold f_X6_runCommands
        rw [Nat.zero_add, f1, hfl, bn2_some, if_neg (show ¬ oI (-1000) (some f) = -1000 from not_none (nI_pos' (by omega)))]
        rfl
      · rw [e4 3 (by decide) (by decide) (by decide), f2.1 85 (by decide)]
      · rw [e4 5 (by decide) (by decide) (by decide), f2.1 85 (by decide)]
      · rw [e3 83 (by decide) (by decide)]
        exact f2.2
    · rw [hfl] at e1
      cases e1
  | none =>
    have e86 : μ2 86 = μ 86 := f2.1 86 (by decide)
    have hG2 : RG 1 μ2 (μ2 86) := by
      rw [e86]
      exact hG.fr16 (fun z z1 z2 => f2.1 z (by omega))
    have hI2 : INV (BN n) (μ2 86) := by rw [e86]; exact hI
    have hH2 : Hist (BN n) μ2 c x := hH.fr (fun z z1 z2 => f2.1 z (by omega)) (by rw [f2.1 17 (by decide)]) (by rw [f2.1 17 (by decide)]) (by rw [f2.1 85 (by decide)]) (f2.1 88 (by decide))
    have hT2 : TextR μ2 len := hT.fr f2.2 (by rw [f2.1 85 (by decide)]) (f2.1 84 (by decide)) (f2.1 89 (by decide))
    obtain ⟨μ3, a1, a2, a3, a4, a5⟩ := save_e hG2 hI2.2.2.2.2.1 hH2.1 hH2.2.1 hH2.2.2.1 hH2.2.2.2.1
    have hx := hH2.2.1
    obtain ⟨μ4, e4⟩ : ∃ μ4, μ4 = mst (mst μ3 83 2 0) 83 3 (-1000) := ⟨_, rfl⟩
    have r83 : ∀ z, 83 ≤ z → μ3 z = μ2 z := fun z hz => a3 z (by omega) (by omega)
    have o4 : ∀ z, z ≠ 83 → μ4 z = μ3 z := fun z hz => by rw [e4, mst_ne hz, mst_ne hz]
    have hX4 : CX 83 μ4 b len := (hX.cf f2).fr (by rw [e4, mst_eq, upd_ne (by decide), mst_eq, upd_ne (by decide), r83 83 (by decide)]) ((o4 (83 + 1) (by decide)).trans (r83 (83 + 1) (by decide)))
    have hG4 : RG 1 μ4 (μ2 86) := hG2.fr16 (fun z z1 z2 => (o4 z (by omega)).trans (a3 z (by omega) (by omega)))
    have hbn := BN_lt hn
    obtain ⟨r, μc, p', g1, g2, g3, g4, g5, g6⟩ := run_loop 150 0 0 FU μ4 (μ2 86) (BN n) hX4 (by rw [e4, mst_eq, upd_ne (by decide), mst_eq, upd_eq]; rfl) (by rw [e4, mst_eq, upd_eq]) (Nat.zero_le _) (by omega) (by omega) hfl (by decide) hG4 hI2 (by omega)
    have rc : ∀ z, 83 ≤ z → z ≠ 83 → μc z = μ2 z := fun z z1 z2 => (g4 z (by omega) z2).trans ((o4 z z2).trans (r83 z z1))
    rcases first μc (by rw [rc 85 (by decide) (by decide), f2.1 85 (by decide)]) ((rc 89 (by decide) (by decide)).trans (f2.1 89 (by decide))) with ⟨f', μ', s1, -⟩ | ⟨M1, s1, s2, s3, s4⟩
    · rw [hfl] at s1
      cases s1
    · obtain ⟨M2, h1, h2, h3, h4, h5⟩ := hold85 (μ := M1)
      obtain ⟨M3, e3⟩ : ∃ M3, M3 = mst M2 85 9 (nI (SK b 0)) := ⟨_, rfl⟩
      have m2b : MX 85 (mst M2 85 9 0) b len := (mx M2 (by rw [h5 5 (by decide), s4 5 (by decide) (by decide) (by decide), rc 85 (by decide) (by decide), f2.1 85 (by decide)]) (by rw [h2 89 (by decide) (by decide), s3 89 (by decide) (by decide), rc 89 (by decide) (by decide), f2.1 89 (by decide)])).m9 (by decide)
      have m29 : mst M2 85 9 0 85 9 = nI 0 := by rw [mst_eq, upd_eq]; rfl
      have hX3 : MX 85 M3 b len := by
        have z := m2b.m9 (x := nI (SK b 0)) (w := 9) (by decide)
        rw [mst_mst, ← e3] at z
        exact z
      have o3 : ∀ z, z ≠ 85 → z ≠ 87 → z ≠ 91 → M3 z = μc z := fun z z1 z2 z3 => by rw [e3, mst_ne z1, h2 z z1 z2, s3 z z1 z3]
      have o35 : ∀ y, y ≠ 6 → y ≠ 7 → y ≠ 9 → y ≠ 10 → M3 85 y = μ2 85 y := fun y y1 y2 y3 y4 => by rw [e3, mst_eq, upd_ne y3, h5 y y2, s4 y y1 y3 y4, rc 85 (by decide) (by decide)]
      have p86 : M3 86 = μ2 86 := (o3 86 (by decide) (by decide) (by decide)).trans (rc 86 (by decide) (by decide))
      obtain ⟨N, n1, n2, n3, n4⟩ := g6 FU M3 (by decide) hX3 (by rw [e3, mst_eq, upd_eq]) p86 (by rw [e3, mst_eq, upd_ne (by decide)]; exact h4)
      rw [nI_0] at n1 g1
      have oN : ∀ z, z ≠ 85 → z ≠ 86 → z ≠ 87 → z ≠ 90 → z ≠ 91 → mst N 85 7 0 z = μc z := fun z z1 z2 z3 z4 z5 => by rw [mst_ne z1, n3 z z1 z2 z4 z5, o3 z z1 z3 z5]
      have q86 : mst N 85 7 0 86 = p' := by rw [mst_ne (by decide)]; exact n2
      obtain ⟨μ', j1, j2, j3⟩ := J_push (hh := hh) (v := nI r) (M := mst N 85 7 0) (μ := μ2) (μ3 := μ3) (μ5 := μc) BN_succ hH2 hT2 hI2 a2 a3 a4 a5 (fun z hz => (g4 z (by omega) (by omega)).trans (o4 z (by omega))) (by rw [g5, e4, mst_eq, upd_ne (by decide), mst_eq, upd_ne (by decide)]) oN (fun k hk => by rw [mst_ne (by decide), n3 87 (by decide) (by decide) (by decide) (by decide), e3, mst_ne (by decide), h3 k hk, s3 86 (by decide) (by decide), rc 86 (by decide) (by decide)]) (by rw [mst_eq, upd_ne (by decide), n4 3 (by decide) (by decide) (by decide), o35 3 (by decide) (by decide) (by decide) (by decide)]; exact hH2.2.2.2.2.1) (by rw [mst_eq, upd_ne (by decide), n4 5 (by decide) (by decide) (by decide), o35 5 (by decide) (by decide) (by decide) (by decide)]) (by rw [mst_eq, upd_eq]) (by rw [q86]; exact g2.fr16 (fun z z1 z2 => oN z (by omega) (by omega) (by omega) (by omega) (by omega))) (by rw [q86]; exact g3.weaken (by rw [← BN_succ]; omega))
      refine ⟨μ', ⟨nI r, μc, ?_, ?_⟩, j3⟩
      · unfold f_X6_runCommands f_X3_rewind
        rw [Nat.zero_add, f1, hfl, bn2_some, if_pos (show oI (-1000) none = -1000 from rfl), Nat.zero_add, Nat.zero_add, a1, Option.bind_some, pf_e, Option.bind_some, pf_e, Option.bind_some, Option.bind_some, ← e4, g1]
      · rw [s2]
        unfold RunM
        rw [h1, Option.bind_some, pf_e, Option.bind_some, spaces_n m2b m29 (by decide), Option.bind_some, mst_mst, ← e3, n1]
        unfold f_X7_runCommands_b116
        rw [pf_e, Option.bind_some, j1, bn2_some]
end PTX4
