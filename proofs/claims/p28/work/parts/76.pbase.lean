/-! PURE, base: reads and writes at natural places; loops; counts -/
section PBASE
theorem nI_mul (a b : Nat) : nI a * nI b = nI (a * b) := (Int32.ofNat_mul a b).symm
theorem rd_n {n k : Nat} {f : Nat → Int32} (h : k < n) (hn : n < 2 ^ 31) : rd n f (nI k) = some (f k) := by
  unfold rd
  rw [if_neg (nI_in h hn), nI_clamp (by omega)]
theorem wr_n {n k q : Nat} {μ : Mem} {x : Int32} (h : k < n) (hn : n < 2 ^ 31) : wr μ q n (nI k) x = some (mst μ q k x) := by
  unfold wr
  rw [if_neg (nI_in h hn), nI_clamp (by omega)]
theorem rd_c {n : Nat} {f : Nat → Int32} {i : Int32} (k : Nat) (e : i = nI k) (h : k < n) (hn : n < 2 ^ 31) : rd n f i = some (f k) := by rw [e]; exact rd_n h hn
theorem wr_c {n q : Nat} {μ : Mem} {x i : Int32} (k : Nat) (e : i = nI k) (h : k < n) (hn : n < 2 ^ 31) : wr μ q n i x = some (mst μ q k x) := by rw [e]; exact wr_n h hn
theorem rd_out {n : Nat} {f : Nat → Int32} {i : Int32} (h : i < 0) : rd n f i = none := by unfold rd; exact if_pos (Or.inl h)
theorem nI_nz {k : Nat} (h : k < 2 ^ 31) : ¬ nI k < 0 := nI_pos h
theorem nI_inj {a b : Nat} (ha : a < 2 ^ 31) (hb : b < 2 ^ 31) (h : nI a = nI b) : a = b := (nI_eq ha hb).mp h
theorem i10 : ((1 : Int32) = 0) = False := eq_false (by decide)
theorem ifz {α : Type} {c : Bool} {a b : α} : (if (if c = true then (1 : Int32) else 0) = 0 then a else b) = if c = true then b else a := by cases c <;> rfl
theorem lI {c : Int32} (a k : Nat) (e : c = nI a) (h : a ≤ k) (hk : k < 2 ^ 31) : c ≤ nI k := by rw [e]; exact nI_le h hk
theorem nlI {c : Int32} (a k : Nat) (e : c = nI a) (h : k < a) (ha : a < 2 ^ 31) : ¬ c ≤ nI k := by rw [e]; exact nI_ge h ha
theorem gI {c : Int32} (a k : Nat) (e : c = nI a) (h : k ≤ a) (ha : a < 2 ^ 31) : nI k ≤ c := by rw [e]; exact nI_le h ha
theorem ngI {c : Int32} (a k : Nat) (e : c = nI a) (h : a < k) (hk : k < 2 ^ 31) : ¬ nI k ≤ c := by rw [e]; exact nI_ge h hk
/-- a loop from k on, n times -/
def lp {α : Type} (s : Nat → α → α) : Nat → Nat → α → α
  | 0, _, a => a
  | n + 1, k, a => lp s n (k + 1) (s k a)
/-- the first place from k on, of n, where P holds -/
def sr (P : Nat → Bool) : Nat → Nat → Option Nat
  | 0, _ => none
  | n + 1, k => if P k then some k else sr P n (k + 1)
/-- how many places under n hold P -/
def ct (P : Nat → Bool) : Nat → Nat
  | 0 => 0
  | n + 1 => ct P n + (if P n then 1 else 0)
def oI (d : Int32) (o : Option Nat) : Int32 := match o with
  | none => d
  | some b => nI b
theorem lp_cg {α : Type} {s t : Nat → α → α} : ∀ (n k : Nat) (a : α), (∀ j, k ≤ j → j < k + n → ∀ a, s j a = t j a) → lp s n k a = lp t n k a
  | 0, _, _, _ => rfl
  | n + 1, k, a, h => by
    show lp s n (k + 1) (s k a) = lp t n (k + 1) (t k a)
    rw [h k (Nat.le_refl _) (by omega)]
    exact lp_cg n (k + 1) _ (fun j h1 h2 => h j (by omega) (by omega))
theorem lp_rel {α β : Type} {s : Nat → α → α} {t : Nat → β → β} (R : α → β → Prop) : ∀ (n k : Nat) (a : α) (b : β), R a b → (∀ j, k ≤ j → j < k + n → ∀ a b, R a b → R (s j a) (t j b)) → R (lp s n k a) (lp t n k b)
  | 0, _, _, _, h, _ => h
  | n + 1, k, a, b, h, hs => lp_rel R n (k + 1) (s k a) (t k b) (hs k (Nat.le_refl _) (by omega) a b h) (fun j h1 h2 => hs j (by omega) (by omega))
theorem lp_inv {α : Type} {s : Nat → α → α} (I : Nat → α → Prop) : ∀ (n k : Nat) (a : α), I k a → (∀ j, k ≤ j → j < k + n → ∀ a, I j a → I (j + 1) (s j a)) → I (k + n) (lp s n k a)
  | 0, _, _, h, _ => h
  | n + 1, k, a, h, hs => by
    have q := lp_inv I n (k + 1) (s k a) (hs k (Nat.le_refl _) (by omega) a h) (fun j h1 h2 => hs j (by omega) (by omega))
    rw [show k + 1 + n = k + (n + 1) by omega] at q
    exact q
theorem sr_cg {P Q : Nat → Bool} : ∀ (n k : Nat), (∀ j, k ≤ j → j < k + n → P j = Q j) → sr P n k = sr Q n k
  | 0, _, _ => rfl
  | n + 1, k, h => by
    show (if P k then some k else sr P n (k + 1)) = (if Q k then some k else sr Q n (k + 1))
    rw [h k (Nat.le_refl _) (by omega), sr_cg n (k + 1) (fun j h1 h2 => h j (by omega) (by omega))]
theorem sr_some {P : Nat → Bool} : ∀ (n k j : Nat), sr P n k = some j → k ≤ j ∧ j < k + n ∧ P j = true ∧ ∀ i, k ≤ i → i < j → P i = false
  | 0, _, _, h => by cases h
  | n + 1, k, j, h => by
    unfold sr at h
    by_cases c : P k = true
    · rw [if_pos c] at h
      cases h
      exact ⟨Nat.le_refl _, by omega, c, fun i h1 h2 => absurd h2 (by omega)⟩
    · rw [if_neg c] at h
      obtain ⟨h1, h2, h3, h4⟩ := sr_some n (k + 1) j h
      refine ⟨by omega, by omega, h3, fun i g1 g2 => ?_⟩
      by_cases e : i = k
      · subst e
        exact eq_false_of_ne_true c
      · exact h4 i (by omega) g2
theorem sr_none {P : Nat → Bool} : ∀ (n k : Nat), sr P n k = none → ∀ i, k ≤ i → i < k + n → P i = false
  | 0, k, _, i, h1, h2 => absurd h2 (by omega)
  | n + 1, k, h, i, h1, h2 => by
    unfold sr at h
    by_cases c : P k = true
    · rw [if_pos c] at h
      cases h
    · rw [if_neg c] at h
      by_cases e : i = k
      · subst e
        exact eq_false_of_ne_true c
      · exact sr_none n (k + 1) h i (by omega) (by omega)
theorem ct_cg {P Q : Nat → Bool} : ∀ (n : Nat), (∀ j, j < n → P j = Q j) → ct P n = ct Q n
  | 0, _ => rfl
  | n + 1, h => by
    unfold ct
    rw [ct_cg n (fun j hj => h j (by omega)), h n (by omega)]
theorem ct_le {P : Nat → Bool} : ∀ (n : Nat), ct P n ≤ n
  | 0 => Nat.le_refl _
  | n + 1 => by
    have q := ct_le (P := P) n
    unfold ct
    split <;> omega
theorem ct_pos {P : Nat → Bool} : ∀ (n : Nat), 0 < ct P n → ∃ j, j < n ∧ P j = true
  | 0, h => absurd h (Nat.lt_irrefl 0)
  | n + 1, h => by
    unfold ct at h
    by_cases c : P n = true
    · exact ⟨n, by omega, c⟩
    · rw [if_neg c] at h
      obtain ⟨j, h1, h2⟩ := ct_pos n h
      exact ⟨j, by omega, h2⟩
/-- one place changes from true to false -/
theorem ct_drop {P Q : Nat → Bool} {b : Nat} : ∀ (n : Nat), b < n → P b = true → Q b = false → (∀ j, j < n → j ≠ b → P j = Q j) → ct P n = ct Q n + 1
  | 0, h, _, _, _ => absurd h (by omega)
  | n + 1, h, h1, h2, h3 => by
    unfold ct
    by_cases e : b = n
    · subst e
      rw [ct_cg (Q := Q) b (fun j hj => h3 j (by omega) (by omega)), if_pos h1, if_neg (by rw [h2]; decide)]
    · rw [ct_drop n (by omega) h1 h2 (fun j hj hne => h3 j (by omega) hne), h3 n (by omega) (fun q => e q.symm)]
      omega
/-- the count as a loop of ints -/
theorem ct_lp {P : Nat → Bool} : ∀ (n k a : Nat), lp (fun j (x : Int32) => x + (if P j then 1 else 0)) n k (nI (a + ct P k)) = nI (a + ct P (k + n))
  | 0, _, _ => rfl
  | n + 1, k, a => by
    show lp _ n (k + 1) (nI (a + ct P k) + (if P k then 1 else 0)) = _
    have e : nI (a + ct P k) + (if P k then 1 else 0) = nI (a + ct P (k + 1)) := by
      rw [show ct P (k + 1) = ct P k + (if P k then 1 else 0) from rfl]
      by_cases c : P k = true
      · rw [if_pos c, if_pos c, nI_1, Nat.add_assoc]
      · rw [if_neg c, if_neg c]
        exact Int32.add_zero _
    rw [e, ct_lp n (k + 1) a, show k + 1 + n = k + (n + 1) by omega]
theorem ct_lp0 {P : Nat → Bool} (n : Nat) : lp (fun j (x : Int32) => x + (if P j then 1 else 0)) n 0 0 = nI (ct P n) := by
  have q := ct_lp (P := P) n 0 0
  rw [Nat.zero_add, Nat.zero_add, Nat.zero_add] at q
  exact q
theorem upd_eq {f : Nat → Int32} {k : Nat} {x : Int32} : upd f k x k = x := if_pos rfl
theorem upd_ne {f : Nat → Int32} {k j : Nat} {x : Int32} (h : j ≠ k) : upd f k x j = f j := if_neg h
end PBASE
