/-! PURE, the digest on both sides -/
section PDIG
variable {m μ μ' : Mem} {p p' P : Nat → Int32} {n k i j c x len r q d : Nat} {B C : Int} {v : Int32} {hh hh' : Int64}
def mx (h : Int64) (v : Int32) : Int64 := 31 * h + v.toInt64
def fr (f : Nat → Nat → Int32) (w : Nat) (r : Nat) (h : Int64) : Int64 := lp (fun j h => mx h (f r j)) w 0 h
theorem mixed_e {h : Int64} : f_X6_mixed h v.toInt64 = some (mx h v) := rfl
theorem mix_e {h : Int64} : f_X7_mix q v μ h = some (mx h v) := rfl
theorem withRoots_in (h : RG (q + 1) μ p) (hi : RootOK p) (hr2 : r < 2) {K : Int64 → Int32 → Mem → Option Int64} : ∀ (n k fu : Nat) (a : Int64), k + n = 4 → n < fu → f_X6_withRoots_b14 q K fu a (nI r) (nI k) μ = K (lp (fun j h => mx h (troot p r j)) n k a) (nI r) μ := by
  intro n
  induction n with
  | zero =>
    intro k fu a hk hf
    obtain ⟨fu, rfl⟩ : ∃ z, fu = z + 1 := ⟨fu - 1, by omega⟩
    rw [f_X6_withRoots_b14, if_pos (lI (c := 4) 4 k rfl (by omega) (by omega))]
    rfl
  | succ n ih =>
    intro k fu a hk hf
    obtain ⟨fu, rfl⟩ : ∃ z, fu = z + 1 := ⟨fu - 1, by omega⟩
    rw [f_X6_withRoots_b14, if_neg (nlI (c := 4) 4 k rfl (by omega) (by omega)), h.rootPart hi hr2 (by omega), Option.bind_some, mixed_e, Option.bind_some, nI_1, ih (k + 1) fu _ (by omega) (by omega)]
    rfl
theorem withRoots_b5 (h : RG (q + 1) μ p) (hi : RootOK p) : ∀ (n k fu : Nat) (a : Int64), k + n = 2 → n < fu → f_X6_withRoots_b5 q fu a (nI k) μ = some (lp (fr (troot p) 4) n k a) := by
  intro n
  induction n with
  | zero =>
    intro k fu a hk hf
    obtain ⟨fu, rfl⟩ : ∃ z, fu = z + 1 := ⟨fu - 1, by omega⟩
    rw [f_X6_withRoots_b5, if_pos (lI (c := 2) 2 k rfl (by omega) (by omega))]
    rfl
  | succ n ih =>
    intro k fu a hk hf
    obtain ⟨fu, rfl⟩ : ∃ z, fu = z + 1 := ⟨fu - 1, by omega⟩
    have e := withRoots_in (r := k) h hi (by omega) (K := fun z3 z4 _ => f_X6_withRoots_b5 q fu z3 (z4 + 1) μ) 4 0 FU a (by omega) (by decide)
    rw [nI_0] at e
    rw [f_X6_withRoots_b5, if_neg (nlI (c := 2) 2 k rfl (by omega) (by omega)), e, nI_1, ih (k + 1) fu _ (by omega) (by omega)]
    rfl
theorem withRoots_n (h : RG (q + 1) μ p) (hi : RootOK p) (a : Int64) : f_X6_withRoots q a μ = some (lp (fr (troot p) 4) 2 0 a) := by
  have e := withRoots_b5 h hi 2 0 FU a (by omega) (by decide)
  rw [nI_0] at e
  unfold f_X6_withRoots
  exact e
theorem withReaders_in (h : RG (q + 1) μ p) (hi : INV B p) (hr2 : r < 4) {K : Int64 → Int32 → Mem → Option Int64} : ∀ (n k fu : Nat) (a : Int64), k + n = 3 → n < fu → f_X6_withReaders_b14 q K fu a (nI r) (nI k) μ = K (lp (fun j h => mx h (trd p r j)) n k a) (nI r) μ := by
  intro n
  induction n with
  | zero =>
    intro k fu a hk hf
    obtain ⟨fu, rfl⟩ : ∃ z, fu = z + 1 := ⟨fu - 1, by omega⟩
    rw [f_X6_withReaders_b14, if_pos (lI (c := 3) 3 k rfl (by omega) (by omega))]
    rfl
  | succ n ih =>
    intro k fu a hk hf
    obtain ⟨fu, rfl⟩ : ∃ z, fu = z + 1 := ⟨fu - 1, by omega⟩
    rw [f_X6_withReaders_b14, if_neg (nlI (c := 3) 3 k rfl (by omega) (by omega)), h.readerPart hi hr2 (by omega), Option.bind_some, mixed_e, Option.bind_some, nI_1, ih (k + 1) fu _ (by omega) (by omega)]
    rfl
theorem withReaders_b5 (h : RG (q + 1) μ p) (hi : INV B p) : ∀ (n k fu : Nat) (a : Int64), k + n = 4 → n < fu → f_X6_withReaders_b5 q fu a (nI k) μ = some (lp (fr (trd p) 3) n k a) := by
  intro n
  induction n with
  | zero =>
    intro k fu a hk hf
    obtain ⟨fu, rfl⟩ : ∃ z, fu = z + 1 := ⟨fu - 1, by omega⟩
    rw [f_X6_withReaders_b5, if_pos (lI (c := 4) 4 k rfl (by omega) (by omega))]
    rfl
  | succ n ih =>
    intro k fu a hk hf
    obtain ⟨fu, rfl⟩ : ∃ z, fu = z + 1 := ⟨fu - 1, by omega⟩
    have e := withReaders_in (r := k) h hi (by omega) (K := fun z3 z4 _ => f_X6_withReaders_b5 q fu z3 (z4 + 1) μ) 3 0 FU a (by omega) (by decide)
    rw [nI_0] at e
    rw [f_X6_withReaders_b5, if_neg (nlI (c := 4) 4 k rfl (by omega) (by omega)), e, nI_1, ih (k + 1) fu _ (by omega) (by omega)]
    rfl
theorem withReaders_n (h : RG (q + 1) μ p) (hi : INV B p) (a : Int64) : f_X6_withReaders q a μ = some (lp (fr (trd p) 3) 4 0 a) := by
  have e := withReaders_b5 h hi 4 0 FU a (by omega) (by decide)
  rw [nI_0] at e
  unfold f_X6_withReaders
  exact e
theorem withBeds_in (h : RG (q + 1) μ p) (hi : RootOK p) (hr2 : r < 32) {K : Int64 → Int32 → Mem → Option Int64} : ∀ (n k fu : Nat) (a : Int64), k + n = 6 → n < fu → f_X6_withBeds_b15 q K fu a (nI r) (nI k) μ = K (lp (fun j h => mx h (tbed p r j)) n k a) (nI r) μ := by
  intro n
  induction n with
  | zero =>
    intro k fu a hk hf
    obtain ⟨fu, rfl⟩ : ∃ z, fu = z + 1 := ⟨fu - 1, by omega⟩
    rw [f_X6_withBeds_b15, if_pos (lI (c := 6) 6 k rfl (by omega) (by omega))]
    rfl
  | succ n ih =>
    intro k fu a hk hf
    obtain ⟨fu, rfl⟩ : ∃ z, fu = z + 1 := ⟨fu - 1, by omega⟩
    rw [f_X6_withBeds_b15, if_neg (nlI (c := 6) 6 k rfl (by omega) (by omega)), h.bedPart hi hr2 (by omega), Option.bind_some, mixed_e, Option.bind_some, nI_1, ih (k + 1) fu _ (by omega) (by omega)]
    rfl
theorem withBeds_b5 (h : RG (q + 1) μ p) (hi : RootOK p) : ∀ (n k fu : Nat) (a : Int64), k + n = 32 → n < fu → f_X6_withBeds_b5 q fu a (nI k) μ = some (lp (fr (tbed p) 6) n k a) := by
  intro n
  induction n with
  | zero =>
    intro k fu a hk hf
    obtain ⟨fu, rfl⟩ : ∃ z, fu = z + 1 := ⟨fu - 1, by omega⟩
    rw [f_X6_withBeds_b5, if_pos (lI (c := 32) 32 k rfl (by omega) (by omega))]
    rfl
  | succ n ih =>
    intro k fu a hk hf
    obtain ⟨fu, rfl⟩ : ∃ z, fu = z + 1 := ⟨fu - 1, by omega⟩
    have e := withBeds_in (r := k) h hi (by omega) (K := fun z3 z4 _ => f_X6_withBeds_b5 q fu z3 (z4 + 1) μ) 6 0 FU a (by omega) (by decide)
    rw [nI_0] at e
    rw [f_X6_withBeds_b5, if_neg (nlI (c := 32) 32 k rfl (by omega) (by omega)), e, nI_1, ih (k + 1) fu _ (by omega) (by omega)]
    rfl
theorem withBeds_n (h : RG (q + 1) μ p) (hi : RootOK p) (a : Int64) : f_X6_withBeds q a μ = some (lp (fr (tbed p) 6) 32 0 a) := by
  have e := withBeds_b5 h hi 32 0 FU a (by omega) (by decide)
  rw [nI_0] at e
  unfold f_X6_withBeds
  exact e
def ev (p : Nat → Int32) (r w : Nat) : Int32 := match loc p (cd p) (nB p (cd p) 2) 0 r with
  | none => 0
  | some z => tev p (cd p) (nI w) z
theorem ev_z {z : Nat × Nat} {w : Nat} (h : loc p (cd p) (nB p (cd p) 2) 0 r = some z) : ev p r w = tev p (cd p) (nI w) z := by
  unfold ev
  rw [h]
theorem w4 {w : Nat} (h : w < 4) : nI w = 0 ∨ nI w = 1 ∨ nI w = 2 ∨ nI w = 3 := by
  rcases (show w = 0 ∨ w = 1 ∨ w = 2 ∨ w = 3 by omega) with rfl | rfl | rfl | rfl
  · exact Or.inl rfl
  · exact Or.inr (Or.inl rfl)
  · exact Or.inr (Or.inr (Or.inl rfl))
  · exact Or.inr (Or.inr (Or.inr rfl))
theorem RG.entPart {g w : Nat} (h : RG g μ p) (hi : INV B p) (hr : r < ens p (cd p)) (hw : w < 4) : f_X4_entryPart g (nI r) (nI w) μ = some (ev p r w) := by
  have hd := hi.2.2.1.2.1
  have h24 := ens_lt hd
  obtain ⟨z, hz, -⟩ := loc_some (p := p) (d := cd p) (nB p (cd p) 2) 0 r (by rw [enf_ens]; exact hr)
  unfold f_X4_entryPart
  rw [h.curDir hi, Option.bind_some, h.1.entryPartIn hd (w4 hw) (by omega) hz, Option.bind_some, ev_z hz]
theorem entTell {w : Nat} (hi : INV B (μ (q + 1))) (hr : r < ens (μ (q + 1)) (cd (μ (q + 1)))) : f_X7_tellEntry q (nI r) (nI w) μ = some (ev (μ (q + 1)) r w) := by
  have hd := hi.2.2.1.2.1
  have h24 := ens_lt hd
  obtain ⟨z, hz, -⟩ := loc_some (p := μ (q + 1)) (d := cd (μ (q + 1))) (nB (μ (q + 1)) (cd (μ (q + 1))) 2) 0 r (by rw [enf_ens]; exact hr)
  rw [tellEntry_n hi.2.2.1.1 hd (by omega) hz, ev_z hz]
theorem entries_in (h : RG (q + 1) μ p) (hi : INV B p) (hr : r < ens p (cd p)) {y : Int32} {K : Int64 → Int32 → Int32 → Mem → Option Int64} : ∀ (n k fu : Nat) (a : Int64), k + n = 4 → n < fu → f_X6_withEntries_b24 q K fu a y (nI r) (nI k) μ = K (lp (fun j h => mx h (ev p r j)) n k a) y (nI r) μ := by
  intro n
  induction n with
  | zero =>
    intro k fu a hk hf
    obtain ⟨fu, rfl⟩ : ∃ z, fu = z + 1 := ⟨fu - 1, by omega⟩
    rw [f_X6_withEntries_b24, if_pos (lI (c := 4) 4 k rfl (by omega) (by omega))]
    rfl
  | succ n ih =>
    intro k fu a hk hf
    obtain ⟨fu, rfl⟩ : ∃ z, fu = z + 1 := ⟨fu - 1, by omega⟩
    rw [f_X6_withEntries_b24, if_neg (nlI (c := 4) 4 k rfl (by omega) (by omega)), h.entPart hi hr (by omega), Option.bind_some, mixed_e, Option.bind_some, nI_1, ih (k + 1) fu _ (by omega) (by omega)]
    rfl
theorem entries_b14 (h : RG (q + 1) μ p) (hi : INV B p) : ∀ (n k fu : Nat) (a : Int64), k + n = ens p (cd p) → n < fu → f_X6_withEntries_b14 q fu a (nI (ens p (cd p))) (nI k) μ = some (lp (fr (ev p) 4) n k a) := by
  have h24 := ens_lt hi.2.2.1.2.1
  intro n
  induction n with
  | zero =>
    intro k fu a hk hf
    obtain ⟨fu, rfl⟩ : ∃ z, fu = z + 1 := ⟨fu - 1, by omega⟩
    rw [f_X6_withEntries_b14, if_pos (nI_le (by omega) (by omega))]
    rfl
  | succ n ih =>
    intro k fu a hk hf
    obtain ⟨fu, rfl⟩ : ∃ z, fu = z + 1 := ⟨fu - 1, by omega⟩
    have e := entries_in (r := k) (y := nI (ens p (cd p))) h hi (by omega) (K := fun z4 z5 z6 _ => f_X6_withEntries_b14 q fu z4 z5 (z6 + 1) μ) 4 0 FU a (by omega) (by decide)
    rw [nI_0] at e
    rw [f_X6_withEntries_b14, if_neg (nI_ge (by omega) (by omega)), e, nI_1, ih (k + 1) fu _ (by omega) (by omega)]
    rfl
theorem withEntries_n (h : RG (q + 1) μ p) (hi : INV B p) (a : Int64) : f_X6_withEntries q a μ = some (lp (fr (ev p) 4) (ens p (cd p)) 0 a) := by
  have hd := hi.2.2.1.2.1
  have h24 := ens_lt hd
  have e := entries_b14 h hi (ens p (cd p)) 0 FU a (by omega) (by unfold FU; omega)
  rw [nI_0] at e
  unfold f_X6_withEntries f_X4_currentEntries
  rw [h.curDir hi, Option.bind_some, h.1.entriesIn hd, Option.bind_some, Option.bind_some]
  exact e
def dlp (p : Nat → Int32) (n k : Nat) (a : Int64) : Int64 := lp (fun j h => mx h (vby p (drd p) (nI j))) n k a
theorem withDraft_b15 (h : RG (q + 1) μ p) (hi : INV B p) (hd : p 466 = 1) : ∀ (n k fu : Nat) (a : Int64), k + n = 100 → n < fu → f_X6_withDraft_b15 q fu a (nI k) μ = some (dlp p n k a) := by
  intro n
  induction n with
  | zero =>
    intro k fu a hk hf
    obtain ⟨fu, rfl⟩ : ∃ z, fu = z + 1 := ⟨fu - 1, by omega⟩
    rw [f_X6_withDraft_b15, if_pos (lI (c := 100) 100 k rfl (by omega) (by omega))]
    rfl
  | succ n ih =>
    intro k fu a hk hf
    obtain ⟨fu, rfl⟩ : ∃ z, fu = z + 1 := ⟨fu - 1, by omega⟩
    rw [f_X6_withDraft_b15, if_neg (nlI (c := 100) 100 k rfl (by omega) (by omega)), h.draftedValue hi hd, Option.bind_some, mixed_e, Option.bind_some, nI_1, ih (k + 1) fu _ (by omega) (by omega)]
    rfl
def dend (p : Nat → Int32) (a : Int64) : Int64 := if p 466 = 1 then dlp p 100 0 a else a
theorem withDraft_n (h : RG (q + 1) μ p) (hi : INV B p) (a : Int64) : f_X6_withDraft q a μ = some (dend p a) := by
  unfold f_X6_withDraft f_X6_withDraft_b43 dend
  rw [show μ (q + 1) 6 = p 466 from h.2.2.2.1]
  rcases hi.2.2.2.2.1 with c0 | c1
  · rw [if_pos c0, if_neg (by rw [c0]; decide)]
  · have e := withDraft_b15 h hi c1 100 0 FU a (by omega) (by decide)
    rw [nI_0] at e
    rw [if_neg (by rw [c1]; decide), if_pos c1, e]
theorem whole_n (h : RG (q + 1) μ p) (hi : INV B p) (hl : μ (q + 83) 1 = nI len) {w : Nat} (hw : w < 15) : f_X6_whole q (nI w) μ = some (twh p (nI len) w) := by
  have hb : f_X6_isBelow (nI w) 15 = some 1 := by
    unfold f_X6_isBelow
    rw [if_neg (nI_nz (by omega)), if_neg (nlI (c := 15) 15 w rfl hw (by decide))]
    rfl
  unfold f_X6_whole f_X6_whole_b14 f_X6_whole_b41
  rw [hb, Option.bind_some, if_neg (by decide), refuse0, Option.bind_some]
  by_cases c : w = 14
  · rw [if_pos (show nI w = (14 : Int32) from congrArg nI c), hl, c]
    rfl
  · rw [if_neg (show ¬ nI w = (14 : Int32) from fun z => c (nI_inj (b := 14) (by omega) (by omega) z)), h.wholePart hi (by omega) (nI len), Option.bind_some]
/-- the whole hash behind the number of states -/
def hashAll (p : Nat → Int32) (len : Int32) (a : Int64) : Int64 := dend p (mx (lp (fr (ev p) 4) (ens p (cd p)) 0 (lp (fr (tbed p) 6) 32 0 (lp (fr (trd p) 3) 4 0 (lp (fr (troot p) 4) 2 0 (lp (fun w h => mx h (twh p len w)) 15 0 a))))) (oI (-1000) (nxt p)))
theorem digest_b17 (h : RG (q + 1) μ p) (hi : INV B p) (hl : μ (q + 83) 1 = nI len) : ∀ (n k fu : Nat) (a : Int64), k + n = 15 → n < fu → f_X6_digest_b17 q fu a (nI k) μ = some (dend p (mx (lp (fr (ev p) 4) (ens p (cd p)) 0 (lp (fr (tbed p) 6) 32 0 (lp (fr (trd p) 3) 4 0 (lp (fr (troot p) 4) 2 0 (lp (fun w h => mx h (twh p (nI len) w)) n k a))))) (oI (-1000) (nxt p)))) := by
  intro n
  induction n with
  | zero =>
    intro k fu a hk hf
    obtain ⟨fu, rfl⟩ : ∃ z, fu = z + 1 := ⟨fu - 1, by omega⟩
    have en : f_X6_nextBed q μ = some (oI (-1000) (nxt p)) := by
      unfold f_X6_nextBed
      rw [h.bedToDig hi, Option.bind_some]
    rw [f_X6_digest_b17, if_pos (lI (c := 15) 15 k rfl (by omega) (by omega)), withRoots_n h hi.1, Option.bind_some, withReaders_n h hi, Option.bind_some, withBeds_n h hi.1, Option.bind_some, withEntries_n h hi, Option.bind_some, en, Option.bind_some, mixed_e, Option.bind_some, withDraft_n h hi, Option.bind_some]
    rfl
  | succ n ih =>
    intro k fu a hk hf
    obtain ⟨fu, rfl⟩ : ∃ z, fu = z + 1 := ⟨fu - 1, by omega⟩
    rw [f_X6_digest_b17, if_neg (nlI (c := 15) 15 k rfl (by omega) (by omega)), whole_n h hi hl (by omega), Option.bind_some, mixed_e, Option.bind_some, nI_1, ih (k + 1) fu _ (by omega) (by omega)]
    rfl
-- the model
theorem mr_b91 (hi : INV B (μ (q + 1))) (hd : μ (q + 1) 466 = 1) : ∀ (n k fu : Nat) (a : Int64), k + n = 100 → n < fu → f_X7_mixRest_b91 q fu (nI k) μ a = some (dlp (μ (q + 1)) n k a) := by
  intro n
  induction n with
  | zero =>
    intro k fu a hk hf
    obtain ⟨fu, rfl⟩ : ∃ z, fu = z + 1 := ⟨fu - 1, by omega⟩
    rw [f_X7_mixRest_b91, if_pos (lI (c := 100) 100 k rfl (by omega) (by omega))]
    rfl
  | succ n ih =>
    intro k fu a hk hf
    obtain ⟨fu, rfl⟩ : ∃ z, fu = z + 1 := ⟨fu - 1, by omega⟩
    rw [f_X7_mixRest_b91, if_neg (nlI (c := 100) 100 k rfl (by omega) (by omega)), r466, Option.bind_some, if_pos hd, drafts_n hi, Option.bind_some, valueBy_n hi.dd.2, Option.bind_some, mix_e, Option.bind_some, nI_1, ih (k + 1) fu _ (by omega) (by omega)]
    rfl
theorem mr_end (hi : INV B (μ (q + 1))) (a : Int64) : f_X7_mixRest_b91 q FU 0 μ a = some (dend (μ (q + 1)) a) := by
  unfold dend
  rcases hi.2.2.2.2.1 with c0 | c1
  · rw [if_neg (by rw [c0]; decide), show FU = 4095 + 1 from rfl, f_X7_mixRest_b91, if_neg (by decide), r466, Option.bind_some, if_neg (by rw [c0]; decide)]
    rfl
  · have e := mr_b91 hi c1 100 0 FU a (by omega) (by decide)
    rw [nI_0] at e
    rw [if_pos c1, e]
theorem mr_b54 (hi : INV B (μ (q + 1))) (hr : r < ens (μ (q + 1)) (cd (μ (q + 1)))) {K : Int32 → Mem → Int64 → Option Int64} : ∀ (n k fu : Nat) (a : Int64), k + n = 4 → n < fu → f_X7_mixRest_b54 q K fu (nI r) (nI k) μ a = K (nI r) μ (lp (fun j h => mx h (ev (μ (q + 1)) r j)) n k a) := by
  intro n
  induction n with
  | zero =>
    intro k fu a hk hf
    obtain ⟨fu, rfl⟩ : ∃ z, fu = z + 1 := ⟨fu - 1, by omega⟩
    rw [f_X7_mixRest_b54, if_pos (lI (c := 4) 4 k rfl (by omega) (by omega))]
    rfl
  | succ n ih =>
    intro k fu a hk hf
    obtain ⟨fu, rfl⟩ : ∃ z, fu = z + 1 := ⟨fu - 1, by omega⟩
    rw [f_X7_mixRest_b54, if_neg (nlI (c := 4) 4 k rfl (by omega) (by omega)), entTell hi hr, Option.bind_some, mix_e, Option.bind_some, nI_1, ih (k + 1) fu _ (by omega) (by omega)]
    rfl
theorem mr_b40 (hi : INV B (μ (q + 1))) : ∀ (n k fu : Nat) (a : Int64), k + n = ens (μ (q + 1)) (cd (μ (q + 1))) → n < fu → f_X7_mixRest_b40 q fu (nI k) μ a = some (dend (μ (q + 1)) (mx (lp (fr (ev (μ (q + 1))) 4) n k a) (oI (-1000) (nxt (μ (q + 1)))))) := by
  have hd := hi.2.2.1.2.1
  have h24 := ens_lt hd
  intro n
  induction n with
  | zero =>
    intro k fu a hk hf
    obtain ⟨fu, rfl⟩ : ∃ z, fu = z + 1 := ⟨fu - 1, by omega⟩
    rw [f_X7_mixRest_b40, now_n hi.2.2.1.1, Option.bind_some, entriesBy_n hd, Option.bind_some, if_pos (nI_le (by omega) (by omega)), tellNext_n, Option.bind_some, mix_e, Option.bind_some, mr_end hi]
    rfl
  | succ n ih =>
    intro k fu a hk hf
    obtain ⟨fu, rfl⟩ : ∃ z, fu = z + 1 := ⟨fu - 1, by omega⟩
    have e := mr_b54 (r := k) hi (by omega) (K := fun z12 _ y11 => f_X7_mixRest_b40 q fu (z12 + 1) μ y11) 4 0 FU a (by omega) (by decide)
    rw [nI_0] at e
    rw [f_X7_mixRest_b40, now_n hi.2.2.1.1, Option.bind_some, entriesBy_n hd, Option.bind_some, if_neg (nI_ge (by omega) (by omega)), e, nI_1, ih (k + 1) fu _ (by omega) (by omega)]
    rfl
theorem mixRest_b10  (hr2 : r < 32) {K : Int32 → Mem → Int64 → Option Int64} : ∀ (n k fu : Nat) (a : Int64), k + n = 6 → n < fu → f_X7_mixRest_b10 q K fu (nI r) (nI k) μ a = K (nI r) μ (lp (fun j h => mx h (tbed (μ (q + 1)) r j)) n k a) := by
  intro n
  induction n with
  | zero =>
    intro k fu a hk hf
    obtain ⟨fu, rfl⟩ : ∃ z, fu = z + 1 := ⟨fu - 1, by omega⟩
    rw [f_X7_mixRest_b10, if_pos (lI (c := 6) 6 k rfl (by omega) (by omega))]
    rfl
  | succ n ih =>
    intro k fu a hk hf
    obtain ⟨fu, rfl⟩ : ∃ z, fu = z + 1 := ⟨fu - 1, by omega⟩
    rw [f_X7_mixRest_b10, if_neg (nlI (c := 6) 6 k rfl (by omega) (by omega)), tellBed_n hr2 (by omega), Option.bind_some, mix_e, Option.bind_some, nI_1, ih (k + 1) fu _ (by omega) (by omega)]
    rfl
theorem mixRest_b2  : ∀ (n k fu : Nat) (a : Int64), k + n = 32 → n < fu → f_X7_mixRest_b2 q fu (nI k) μ a = f_X7_mixRest_b40 q FU 0 μ (lp (fr (tbed (μ (q + 1))) 6) n k a) := by
  intro n
  induction n with
  | zero =>
    intro k fu a hk hf
    obtain ⟨fu, rfl⟩ : ∃ z, fu = z + 1 := ⟨fu - 1, by omega⟩
    rw [f_X7_mixRest_b2, if_pos (lI (c := 32) 32 k rfl (by omega) (by omega))]
    rfl
  | succ n ih =>
    intro k fu a hk hf
    obtain ⟨fu, rfl⟩ : ∃ z, fu = z + 1 := ⟨fu - 1, by omega⟩
    have e := mixRest_b10 (q := q) (μ := μ) (r := k) (by omega) (K := fun z16 _ y15 => f_X7_mixRest_b2 q fu (z16 + 1) μ y15) 6 0 FU a (by omega) (by decide)
    rw [nI_0] at e
    rw [f_X7_mixRest_b2, if_neg (nlI (c := 32) 32 k rfl (by omega) (by omega)), e, nI_1, ih (k + 1) fu _ (by omega) (by omega)]
    rfl
theorem digest_b88 (hi : INV B (μ (q + 1))) (hr2 : r < 4) {K : Int32 → Mem → Int64 → Option (Int64 × Mem × Int64)} : ∀ (n k fu : Nat) (a : Int64), k + n = 3 → n < fu → f_X7_digest_b88 q K fu (nI r) (nI k) μ a = K (nI r) μ (lp (fun j h => mx h (trd (μ (q + 1)) r j)) n k a) := by
  intro n
  induction n with
  | zero =>
    intro k fu a hk hf
    obtain ⟨fu, rfl⟩ : ∃ z, fu = z + 1 := ⟨fu - 1, by omega⟩
    rw [f_X7_digest_b88, if_pos (lI (c := 3) 3 k rfl (by omega) (by omega))]
    rfl
  | succ n ih =>
    intro k fu a hk hf
    obtain ⟨fu, rfl⟩ : ∃ z, fu = z + 1 := ⟨fu - 1, by omega⟩
    rw [f_X7_digest_b88, if_neg (nlI (c := 3) 3 k rfl (by omega) (by omega)), tellReader_n hi hr2 (by omega), Option.bind_some, mix_e, Option.bind_some, nI_1, ih (k + 1) fu _ (by omega) (by omega)]
    rfl
theorem digest_b81 (hi : INV B (μ (q + 1))) : ∀ (n k fu : Nat) (a : Int64), k + n = 4 → n < fu → f_X7_digest_b81 q fu (nI k) μ a = (f_X7_mixRest q μ (lp (fr (trd (μ (q + 1))) 3) n k a)).bind (fun y3 => (some (y3, μ, y3))) := by
  intro n
  induction n with
  | zero =>
    intro k fu a hk hf
    obtain ⟨fu, rfl⟩ : ∃ z, fu = z + 1 := ⟨fu - 1, by omega⟩
    rw [f_X7_digest_b81, if_pos (lI (c := 4) 4 k rfl (by omega) (by omega))]
    rfl
  | succ n ih =>
    intro k fu a hk hf
    obtain ⟨fu, rfl⟩ : ∃ z, fu = z + 1 := ⟨fu - 1, by omega⟩
    have e := digest_b88 (q := q) (μ := μ) (r := k) hi (by omega) (K := fun z8 μ6 y7 => f_X7_digest_b81 q fu (z8 + 1) μ6 y7) 3 0 FU a (by omega) (by decide)
    rw [nI_0] at e
    rw [f_X7_digest_b81, if_neg (nlI (c := 4) 4 k rfl (by omega) (by omega)), e, nI_1, ih (k + 1) fu _ (by omega) (by omega)]
    rfl
theorem digest_b52  (hr2 : r < 2) {K : Int32 → Mem → Int64 → Option (Int64 × Mem × Int64)} : ∀ (n k fu : Nat) (a : Int64), k + n = 4 → n < fu → f_X7_digest_b52 q K fu (nI r) (nI k) μ a = K (nI r) μ (lp (fun j h => mx h (troot (μ (q + 1)) r j)) n k a) := by
  intro n
  induction n with
  | zero =>
    intro k fu a hk hf
    obtain ⟨fu, rfl⟩ : ∃ z, fu = z + 1 := ⟨fu - 1, by omega⟩
    rw [f_X7_digest_b52, if_pos (lI (c := 4) 4 k rfl (by omega) (by omega))]
    rfl
  | succ n ih =>
    intro k fu a hk hf
    obtain ⟨fu, rfl⟩ : ∃ z, fu = z + 1 := ⟨fu - 1, by omega⟩
    rw [f_X7_digest_b52, if_neg (nlI (c := 4) 4 k rfl (by omega) (by omega)), tellRoot_n hr2 (by omega), Option.bind_some, mix_e, Option.bind_some, nI_1, ih (k + 1) fu _ (by omega) (by omega)]
    rfl
theorem digest_b45  : ∀ (n k fu : Nat) (a : Int64), k + n = 2 → n < fu → f_X7_digest_b45 q fu (nI k) μ a = f_X7_digest_b81 q FU 0 μ (lp (fr (troot (μ (q + 1))) 4) n k a) := by
  intro n
  induction n with
  | zero =>
    intro k fu a hk hf
    obtain ⟨fu, rfl⟩ : ∃ z, fu = z + 1 := ⟨fu - 1, by omega⟩
    rw [f_X7_digest_b45, if_pos (lI (c := 2) 2 k rfl (by omega) (by omega))]
    rfl
  | succ n ih =>
    intro k fu a hk hf
    obtain ⟨fu, rfl⟩ : ∃ z, fu = z + 1 := ⟨fu - 1, by omega⟩
    have e := digest_b52 (q := q) (μ := μ) (r := k) (by omega) (K := fun z13 μ11 y12 => f_X7_digest_b45 q fu (z13 + 1) μ11 y12) 4 0 FU a (by omega) (by decide)
    rw [nI_0] at e
    rw [f_X7_digest_b45, if_neg (nlI (c := 2) 2 k rfl (by omega) (by omega)), e, nI_1, ih (k + 1) fu _ (by omega) (by omega)]
    rfl
theorem digest_b22 (hi : INV B (μ (q + 1))) : ∀ (n k fu : Nat) (a : Int64), k + n = 15 → n < fu → f_X7_digest_b22 q fu (nI k) μ a = f_X7_digest_b45 q FU 0 μ (lp (fun w h => mx h (twh (μ (q + 1)) (μ q 5) w)) n k a) := by
  intro n
  induction n with
  | zero =>
    intro k fu a hk hf
    obtain ⟨fu, rfl⟩ : ∃ z, fu = z + 1 := ⟨fu - 1, by omega⟩
    rw [f_X7_digest_b22, if_pos (lI (c := 15) 15 k rfl (by omega) (by omega))]
    rfl
  | succ n ih =>
    intro k fu a hk hf
    obtain ⟨fu, rfl⟩ : ∃ z, fu = z + 1 := ⟨fu - 1, by omega⟩
    rw [f_X7_digest_b22, if_neg (nlI (c := 15) 15 k rfl (by omega) (by omega)), tell_n hi (by omega), Option.bind_some, mix_e, Option.bind_some, nI_1, ih (k + 1) fu _ (by omega) (by omega)]
    rfl
theorem digestM (hi : INV B (μ (q + 1))) (a : Int64) : f_X7_digest_b22 q FU 0 μ a = some (hashAll (μ (q + 1)) (μ q 5) a, μ, hashAll (μ (q + 1)) (μ q 5) a) := by
  have h24 := ens_lt hi.2.2.1.2.1
  have e1 := digest_b22 hi 15 0 FU a (by omega) (by decide)
  rw [nI_0] at e1
  have e2 := digest_b45 (q := q) (μ := μ) 2 0 FU (lp (fun w h => mx h (twh (μ (q + 1)) (μ q 5) w)) 15 0 a) (by omega) (by decide)
  rw [nI_0] at e2
  have e3 := digest_b81 (q := q) (μ := μ) hi 4 0 FU (lp (fr (troot (μ (q + 1))) 4) 2 0 (lp (fun w h => mx h (twh (μ (q + 1)) (μ q 5) w)) 15 0 a)) (by omega) (by decide)
  rw [nI_0] at e3
  have e4 := mixRest_b2 (q := q) (μ := μ) 32 0 FU (lp (fr (trd (μ (q + 1))) 3) 4 0 (lp (fr (troot (μ (q + 1))) 4) 2 0 (lp (fun w h => mx h (twh (μ (q + 1)) (μ q 5) w)) 15 0 a))) (by omega) (by decide)
  rw [nI_0] at e4
  have e5 := mr_b40 (q := q) (μ := μ) hi (ens (μ (q + 1)) (cd (μ (q + 1)))) 0 FU (lp (fr (tbed (μ (q + 1))) 6) 32 0 (lp (fr (trd (μ (q + 1))) 3) 4 0 (lp (fr (troot (μ (q + 1))) 4) 2 0 (lp (fun w h => mx h (twh (μ (q + 1)) (μ q 5) w)) 15 0 a)))) (by omega) (by unfold FU; omega)
  rw [nI_0] at e5
  rw [e1, e2, e3]
  unfold f_X7_mixRest
  rw [e4, e5, Option.bind_some]
  rfl
theorem st_24 (hJ : Jinv n μ hh) : ∃ μ' hh', St_24 hh hh' μ μ' ∧ Jinv (n + 1) μ' hh' := by
  have hJ0 := hJ
  obtain ⟨hG, hI, ⟨c, x, hH⟩, len, t1, t2, t3, t4⟩ := hJ0
  have e3 : mst μ 85 6 0 85 3 = nI c := by rw [mst_eq, upd_ne (by decide)]; exact hH.2.2.2.2.1
  have e5 : mst μ 85 6 0 85 5 = nI len := by rw [mst_eq, upd_ne (by decide)]; exact t3
  refine ⟨mst μ 85 6 0, hashAll (μ 86) (nI len) (mx 43518 (nI c)), ⟨hashAll (μ 86) (nI len) (mx 43518 (nI c)), ?_, ?_⟩, hJ.j6 0⟩
  · have e := digest_b17 (q := 0) (μ := μ) (p := μ 86) (len := len) hG hI t2 15 0 FU (mx 43518 (nI c)) (by omega) (by decide)
    rw [nI_0] at e
    unfold f_X6_digest
    rw [show μ (0 + 17) 1 = nI c from hH.2.2.1, mixed_e, Option.bind_some, e]
    rfl
  · have e := digestM (q := 85) (μ := mst μ 85 6 0) (B := BN n) (by rw [T1]; exact hI) (mx 43518 (nI c))
    rw [T1, e5] at e
    unfold f_X7_digest
    rw [pf_e, Option.bind_some, e3, mix_e, Option.bind_some, e]
end PDIG
