/-! p28, PURE: the script's numbers -/
section PZAR
variable {m t k L x : Nat} {a v : Int32} {xs : Nat → Int32}
theorem and_n (a : Int32) : ∃ t, t < 2 ^ 31 ∧ a &&& 2147483647 = nI t := by
  refine ⟨a.toBitVec.toNat % 2 ^ 31, Nat.mod_lt _ (by decide), ?_⟩
  apply Int32.toBitVec_inj.mp
  unfold nI
  rw [Int32.toBitVec_and, Int32.toBitVec_ofNat']
  apply BitVec.eq_of_toNat_eq
  rw [BitVec.toNat_and, BitVec.toNat_ofNat]
  have e : (Int32.toBitVec 2147483647).toNat = 2 ^ 31 - 1 := rfl
  rw [e, Nat.and_two_pow_sub_one_eq_mod]
  have h := Nat.mod_lt a.toBitVec.toNat (show 2 ^ 31 > 0 by decide)
  exact (Nat.mod_eq_of_lt (by omega)).symm
theorem and_id (ht : t < 2 ^ 31) : nI t &&& 2147483647 = nI t := by
  apply Int32.toBitVec_inj.mp
  unfold nI
  rw [Int32.toBitVec_and, Int32.toBitVec_ofNat']
  apply BitVec.eq_of_toNat_eq
  rw [BitVec.toNat_and, BitVec.toNat_ofNat]
  have e : (Int32.toBitVec 2147483647).toNat = 2 ^ 31 - 1 := rfl
  rw [e, Nat.and_two_pow_sub_one_eq_mod, Nat.mod_eq_of_lt (show t < 2 ^ 32 by omega), Nat.mod_eq_of_lt ht]
theorem nI_div (ht : t < 2 ^ 31) (hm : m < 2 ^ 31) : nI t / nI m = nI (t / m) := (Int32.ofNat_div ht hm).symm
theorem low_t (ht : t < 2 ^ 31) (e : a &&& 2147483647 = nI t) (hm : 0 < m) (hm' : m < 2 ^ 31) : f_L_low a (nI m) = some (nI (t % m)) := by
  unfold f_L_low
  have hle : t / m * m ≤ t := Nat.div_mul_le_self t m
  rw [if_neg (nI_ne0 hm hm'), e, nI_div ht hm', nI_mul, nI_sub hle]
  have em : t - t / m * m = t % m := by
    have q := Nat.div_add_mod t m
    rw [Nat.mul_comm] at q
    omega
  rw [em]
theorem low_n (a : Int32) (hm : 0 < m) (hm' : m < 2 ^ 31) : ∃ k, k < m ∧ f_L_low a (nI m) = some (nI k) := by
  obtain ⟨t, ht, e⟩ := and_n a
  exact ⟨t % m, Nat.mod_lt _ hm, low_t ht e hm hm'⟩
theorem low_0 : f_L_low 0 20 = some 0 := low_t (t := 0) (m := 20) (by decide) (by decide) (by decide) (by decide)
theorem low_r (a : Int32) : f_L_low (((a &&& 2147483647) / 20) * 20) 20 = some 0 := by
  obtain ⟨t, ht, e⟩ := and_n a
  have hle : t / 20 * 20 ≤ t := Nat.div_mul_le_self t 20
  have e2 : ((a &&& 2147483647) / 20) * 20 = nI (t / 20 * 20) := by
    rw [e, show (20 : Int32) = nI 20 from rfl, nI_div ht (by decide), nI_mul]
  rw [e2]
  have q := low_t (t := t / 20 * 20) (m := 20) (a := nI (t / 20 * 20)) (by omega) (and_id (by omega)) (by decide) (by decide)
  rw [Nat.mul_mod_left] at q
  exact q
theorem nI_int (hk : k < 2 ^ 31) : (nI k).toInt = k := Int32.toInt_ofNat_of_lt hk
theorem val_ok (hk : k < 1999) : VOK (nI k - 999) := by
  have e : (nI k - 999).toInt = (k : Int) - 999 := by
    rw [Int32.toInt_sub, nI_int (by omega), show (999 : Int32).toInt = 999 from rfl]
    exact Int.bmod_eq_of_le (by omega) (by omega)
  constructor
  · apply Int32.le_iff_toInt_le.mpr
    rw [e, show (-999 : Int32).toInt = -999 from rfl]
    omega
  · apply Int32.le_iff_toInt_le.mpr
    rw [e, show (999 : Int32).toInt = 999 from rfl]
    omega
theorem lot_y (hk : k < 2 ^ 31) (hL : L ≤ 260) : ∃ v, f_L_lot xs L (nI k) = some v := by
  unfold f_L_lot
  by_cases c : nI L ≤ nI k
  · exact ⟨_, if_pos c⟩
  · have hlt : k < L := by
      rcases Nat.lt_or_ge k L with z | z
      · exact z
      · exact absurd (nI_le z hk) c
    rw [if_neg c, nI_clamp hk, if_neg (by rintro (z | z); exact nI_nz hk z; omega)]
    exact ⟨_, rfl⟩
theorem cmp_same (x : Int64) : lg_cmp x x = 0 := by
  unfold lg_cmp
  simp
end PZAR
