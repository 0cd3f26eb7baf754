theorem iv_bv (a : Int) : (iv a).toBitVec = BitVec.ofInt 32 a := rfl
theorem jv_bv (a : Int) : (jv a).toBitVec = BitVec.ofInt 64 a := rfl
theorem bv_n (a : Int) : (BitVec.ofInt 32 a).toNat = (a % 4294967296).toNat := by rw [BitVec.toNat_ofInt]; rfl
theorem bv_m (a : Int) : (BitVec.ofInt 64 a).toNat = (a % 18446744073709551616).toNat := by rw [BitVec.toNat_ofInt]; rfl
theorem iv_ext {x : Int32} {a : Int} (h : x.toBitVec.toNat = (a % 4294967296).toNat) : x = iv a := Int32.toBitVec_inj.mp (BitVec.eq_of_toNat_eq (by rw [iv_bv, bv_n]; exact h))
theorem jv_ext {x : Int64} {a : Int} (h : x.toBitVec.toNat = (a % 18446744073709551616).toNat) : x = jv a := Int64.toBitVec_inj.mp (BitVec.eq_of_toNat_eq (by rw [jv_bv, bv_m]; exact h))
theorem iv_and {a b : Int} (ha : 0 ≤ a ∧ a < 4294967296) (hb : 0 ≤ b ∧ b < 4294967296) : iv a &&& iv b = iv ((a.toNat &&& b.toNat : Nat) : Int) := by
  apply iv_ext
  rw [Int32.toBitVec_and, BitVec.toNat_and, iv_bv, iv_bv, bv_n, bv_n]
  have h1 : (a % 4294967296).toNat = a.toNat := by omega
  have h2 : (b % 4294967296).toNat = b.toNat := by omega
  rw [h1, h2]
  have h3 : a.toNat &&& b.toNat ≤ a.toNat := Nat.and_le_left
  omega
theorem iv_or {a b : Int} (ha : 0 ≤ a ∧ a < 2147483648) (hb : 0 ≤ b ∧ b < 2147483648) : iv a ||| iv b = iv ((a.toNat ||| b.toNat : Nat) : Int) := by
  apply iv_ext
  rw [Int32.toBitVec_or, BitVec.toNat_or, iv_bv, iv_bv, bv_n, bv_n]
  have h1 : (a % 4294967296).toNat = a.toNat := by omega
  have h2 : (b % 4294967296).toNat = b.toNat := by omega
  rw [h1, h2]
  have h3 : a.toNat ||| b.toNat < 2 ^ 31 := Nat.or_lt_two_pow (by omega) (by omega)
  omega
theorem iv_mask (a : Int) {m k : Nat} (hm : m + 1 = 2 ^ k) (hk : k < 32) : iv a &&& iv (m : Int) = iv (a % (m + 1 : Nat)) := by
  apply iv_ext
  have hp : 2 ^ k ≤ 2 ^ 31 := Nat.pow_le_pow_right (by decide) (by omega)
  rw [Int32.toBitVec_and, BitVec.toNat_and, iv_bv, iv_bv, bv_n, bv_n]
  have h2 : ((m : Int) % 4294967296).toNat = 2 ^ k - 1 := by omega
  rw [h2, Nat.and_two_pow_sub_one_eq_mod, hm]
  have h3 : ((4294967296 : Int)) = ((2 ^ k : Nat) : Int) * ((2 ^ (32 - k) : Nat) : Int) := by
    rw [← Int.natCast_mul, ← Nat.pow_add, show k + (32 - k) = 32 by omega]; rfl
  have h4 : a % ((2 ^ k : Nat) : Int) = (a % 4294967296) % ((2 ^ k : Nat) : Int) := (Int.emod_emod_of_dvd a ⟨_, h3⟩).symm
  have hpos : (0 : Int) < ((2 ^ k : Nat) : Int) := by have : 0 < 2 ^ k := Nat.pos_of_ne_zero (by simp); omega
  have h5 : 0 ≤ a % 4294967296 := by omega
  rw [h4]
  generalize a % 4294967296 = q at h5
  obtain ⟨n, rfl⟩ := Int.eq_ofNat_of_zero_le h5
  have h6 : ((n : Int) % ((2 ^ k : Nat) : Int)) = ((n % 2 ^ k : Nat) : Int) := by simp
  rw [h6]
  have h7 : n % 2 ^ k < 2 ^ k := Nat.mod_lt _ (Nat.pos_of_ne_zero (by simp))
  simp only [Int.toNat_natCast]
  generalize n % 2 ^ k = r at h7 ⊢
  generalize 2 ^ k = P at h7 hp
  omega
theorem iv_ushr (a : Int) {k : Nat} (hk : k < 32) : ((iv a).toUInt32 >>> ((iv (k : Int)).toUInt32 &&& Int32.toUInt32 31)).toInt32 = iv (a % 4294967296 / (2 ^ k : Nat)) := by
  apply iv_ext
  have h1 : ((iv (k : Int)).toUInt32 &&& Int32.toUInt32 31) = UInt32.ofNat k := by
    have : ∀ k, k < 32 → ((iv ((k : Nat) : Int)).toUInt32 &&& Int32.toUInt32 31) = UInt32.ofNat k := by decide +kernel
    exact this k hk
  rw [h1]
  have h2 : ((iv a).toUInt32 >>> UInt32.ofNat k).toInt32.toBitVec.toNat = (iv a).toBitVec.toNat / 2 ^ k := by
    show ((iv a).toUInt32 >>> UInt32.ofNat k).toNat = _
    rw [UInt32.toNat_shiftRight, UInt32.toNat_ofNat', Nat.shiftRight_eq_div_pow]
    rw [show k % 2 ^ 32 % 32 = k by omega]
    rfl
  rw [h2, iv_bv, bv_n]
  have h5 : 0 ≤ a % 4294967296 := by omega
  have h6 : a % 4294967296 < 4294967296 := by omega
  generalize a % 4294967296 = q at h5 h6
  obtain ⟨n, rfl⟩ := Int.eq_ofNat_of_zero_le h5
  have h7 : ((n : Int) / ((2 ^ k : Nat) : Int)) = ((n / 2 ^ k : Nat) : Int) := by simp
  rw [h7]
  have h8 : n / 2 ^ k ≤ n := Nat.div_le_self _ _
  simp only [Int.toNat_natCast]
  clear h2 h7
  generalize n / 2 ^ k = r at h8 ⊢
  omega
theorem i2l_iv {a : Int} (h : -2147483648 ≤ a ∧ a < 2147483648) : (iv a).toInt64 = jv a := by
  have h1 : (iv a).toInt64.toInt = a := by rw [Int32.toInt_toInt64, iv_toInt h]
  exact (jv_self _).symm.trans (congrArg jv h1)
theorem lcmp_jv {a b : Int} (ha : -9223372036854775808 ≤ a ∧ a < 9223372036854775808) (hb : -9223372036854775808 ≤ b ∧ b < 9223372036854775808) : lg_cmp (jv a) (jv b) = iv (if a = b then 0 else if b < a then 1 else -1) := by
  unfold lg_cmp
  have e1 : jv b < jv a ↔ b < a := by rw [Int64.lt_iff_toInt_lt, jv_toInt ha, jv_toInt hb]
  have e2 : jv a = jv b ↔ a = b := by rw [← Int64.toInt_inj, jv_toInt ha, jv_toInt hb]
  by_cases h : a = b
  · rw [if_neg (by rw [gt_iff_lt, e1]; omega), if_pos (e2.mpr h), if_pos h]; rfl
  · by_cases h2 : b < a
    · rw [if_pos (by rw [gt_iff_lt, e1]; exact h2), if_neg h, if_pos h2]; rfl
    · rw [if_neg (by rw [gt_iff_lt, e1]; exact h2), if_neg (fun q => h (e2.mp q)), if_neg h, if_neg h2]; rfl
theorem iv_div {a b : Int} (ha : 0 ≤ a ∧ a < 2147483648) (hb : 0 < b ∧ b < 2147483648) : iv a / iv b = iv (a / b) := by
  have h1 : 0 ≤ a / b := Int.ediv_nonneg ha.1 (by omega)
  have h2 : a / b ≤ a := Int.ediv_le_self b ha.1
  apply Int32.toInt_inj.mp
  rw [Int32.toInt_div, iv_toInt (by omega), iv_toInt (by omega), iv_toInt (by omega), Int.tdiv_eq_ediv_of_nonneg ha.1]
  exact Int.bmod_eq_of_le (by omega) (by omega)
theorem iv_rem {a b : Int} (ha : 0 ≤ a ∧ a < 2147483648) (hb : 0 < b ∧ b < 2147483648) : iv a - iv a / iv b * iv b = iv (a % b) := by
  rw [iv_div ha hb, iv_mul, iv_sub]
  congr 1
  have := Int.emod_add_ediv_mul a b
  omega
theorem iv_ne0 {b : Int} (h : -2147483648 ≤ b ∧ b < 2147483648) (h0 : ¬ b = 0) : ¬ iv b = 0 := fun q => h0 ((iv_eq (b := 0) h (by decide)).mp q)
