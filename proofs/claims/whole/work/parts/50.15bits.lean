theorem sh_k32 : ∀ k : Fin 32, ((iv (k.val : Int) &&& 31).toBitVec.smod 32).toNat = k.val := by decide +kernel
theorem sh_k64 : ∀ k : Fin 64, (((iv (k.val : Int)).toInt64 &&& 63).toBitVec.smod 64).toNat = k.val := by decide +kernel
theorem shr32_eq {a k : Int} (ha : -2147483648 ≤ a ∧ a < 2147483648) (hk : 0 ≤ k ∧ k < 32) : shr32 a k = a / (2 ^ k.toNat : Nat) := by
  have e := sh_k32 ⟨k.toNat, by omega⟩
  have ek : ((k.toNat : Nat) : Int) = k := by omega
  simp only [ek] at e
  have : shr32 a k = (iv a).toBitVec.toInt >>> ((iv k &&& 31).toBitVec.smod 32).toNat := BitVec.toInt_sshiftRight'
  rw [this, e]
  show (iv a).toInt >>> k.toNat = _
  rw [iv_toInt ha, Int.shiftRight_eq_div_pow]
theorem shr64_eq {a k : Int} (ha : -9223372036854775808 ≤ a ∧ a < 9223372036854775808) (hk : 0 ≤ k ∧ k < 64) : shr64 a k = a / (2 ^ k.toNat : Nat) := by
  have e := sh_k64 ⟨k.toNat, by omega⟩
  have ek : ((k.toNat : Nat) : Int) = k := by omega
  simp only [ek] at e
  have : shr64 a k = (jv a).toBitVec.toInt >>> (((iv k).toInt64 &&& 63).toBitVec.smod 64).toNat := BitVec.toInt_sshiftRight'
  rw [this, e]
  show (jv a).toInt >>> k.toNat = _
  rw [jv_toInt ha, Int.shiftRight_eq_div_pow]
theorem bv_pos {a : Int} (ha : 0 ≤ a ∧ a < 2147483648) : (iv a).toBitVec.toNat = a.toNat := by
  rw [iv_bv, bv_n, Int.emod_eq_of_lt ha.1 (by omega)]
theorem bw_pos {a : Int} (ha : 0 ≤ a ∧ a < 9223372036854775808) : (jv a).toBitVec.toNat = a.toNat := by
  rw [jv_bv, bv_m, Int.emod_eq_of_lt ha.1 (by omega)]
theorem to_pos {x : Int32} {n : Nat} (h : x.toBitVec.toNat = n) (hn : n < 2147483648) : x.toInt = (n : Int) := by
  have e : x.toInt = x.toBitVec.toInt := rfl
  rw [e, BitVec.toInt_eq_toNat_of_lt (by rw [h]; omega), h]
theorem tw_pos {x : Int64} {n : Nat} (h : x.toBitVec.toNat = n) (hn : n < 9223372036854775808) : x.toInt = (n : Int) := by
  have e : x.toInt = x.toBitVec.toInt := rfl
  rw [e, BitVec.toInt_eq_toNat_of_lt (by rw [h]; omega), h]
theorem and32_pos {a b : Int} (ha : 0 ≤ a ∧ a < 2147483648) (hb : 0 ≤ b ∧ b < 2147483648) : and32 a b = ((a.toNat &&& b.toNat : Nat) : Int) := by
  refine to_pos ?_ (Nat.lt_of_le_of_lt Nat.and_le_left (by omega))
  rw [Int32.toBitVec_and, BitVec.toNat_and, bv_pos ha, bv_pos hb]
theorem or32_pos {a b : Int} (ha : 0 ≤ a ∧ a < 2147483648) (hb : 0 ≤ b ∧ b < 2147483648) : or32 a b = ((a.toNat ||| b.toNat : Nat) : Int) := by
  refine to_pos ?_ (by have := Nat.or_lt_two_pow (n := 31) (x := a.toNat) (y := b.toNat) (by omega) (by omega); omega)
  rw [Int32.toBitVec_or, BitVec.toNat_or, bv_pos ha, bv_pos hb]
theorem xor32_pos {a b : Int} (ha : 0 ≤ a ∧ a < 2147483648) (hb : 0 ≤ b ∧ b < 2147483648) : xor32 a b = ((a.toNat ^^^ b.toNat : Nat) : Int) := by
  refine to_pos ?_ (by have := Nat.xor_lt_two_pow (n := 31) (x := a.toNat) (y := b.toNat) (by omega) (by omega); omega)
  rw [Int32.toBitVec_xor, BitVec.toNat_xor, bv_pos ha, bv_pos hb]
theorem and64_pos {a b : Int} (ha : 0 ≤ a ∧ a < 9223372036854775808) (hb : 0 ≤ b ∧ b < 9223372036854775808) : and64 a b = ((a.toNat &&& b.toNat : Nat) : Int) := by
  refine tw_pos ?_ (Nat.lt_of_le_of_lt Nat.and_le_left (by omega))
  rw [Int64.toBitVec_and, BitVec.toNat_and, bw_pos ha, bw_pos hb]
theorem or64_pos {a b : Int} (ha : 0 ≤ a ∧ a < 9223372036854775808) (hb : 0 ≤ b ∧ b < 9223372036854775808) : or64 a b = ((a.toNat ||| b.toNat : Nat) : Int) := by
  refine tw_pos ?_ (by have := Nat.or_lt_two_pow (n := 63) (x := a.toNat) (y := b.toNat) (by omega) (by omega); omega)
  rw [Int64.toBitVec_or, BitVec.toNat_or, bw_pos ha, bw_pos hb]
theorem shl32_eq {a k : Int} (ha : 0 ≤ a ∧ a < 2147483648) (hk : 0 ≤ k ∧ k < 32) (hl : a.toNat * 2 ^ k.toNat < 2147483648) : shl32 a k = ((a.toNat * 2 ^ k.toNat : Nat) : Int) := by
  have e := sh_k32 ⟨k.toNat, by omega⟩
  have ek : ((k.toNat : Nat) : Int) = k := by omega
  simp only [ek] at e
  refine to_pos ?_ hl
  show ((iv a).toBitVec <<< ((iv k &&& 31).toBitVec.smod 32)).toNat = _
  rw [BitVec.shiftLeft_eq', e, BitVec.toNat_shiftLeft, bv_pos ha, Nat.shiftLeft_eq, Nat.mod_eq_of_lt (by omega)]
theorem shl64_eq {a k : Int} (ha : 0 ≤ a ∧ a < 9223372036854775808) (hk : 0 ≤ k ∧ k < 64) (hl : a.toNat * 2 ^ k.toNat < 9223372036854775808) : shl64 a k = ((a.toNat * 2 ^ k.toNat : Nat) : Int) := by
  have e := sh_k64 ⟨k.toNat, by omega⟩
  have ek : ((k.toNat : Nat) : Int) = k := by omega
  simp only [ek] at e
  refine tw_pos ?_ hl
  show ((jv a).toBitVec <<< (((iv k).toInt64 &&& 63).toBitVec.smod 64)).toNat = _
  rw [BitVec.shiftLeft_eq', e, BitVec.toNat_shiftLeft, bw_pos ha, Nat.shiftLeft_eq, Nat.mod_eq_of_lt (by omega)]
theorem ushr32_eq (a : Int) {k : Int} (hk : 0 ≤ k ∧ k < 32) (h1 : 1 ≤ k ∨ 0 ≤ a % 4294967296 ∧ a % 4294967296 < 2147483648) : ushr32 a k = a % 4294967296 / (2 ^ k.toNat : Nat) := by
  have e := iv_ushr a (k := k.toNat) (by omega)
  rw [show ((k.toNat : Nat) : Int) = k from by omega] at e
  unfold ushr32
  rw [e]
  have h0 : 0 ≤ a % 4294967296 ∧ a % 4294967296 < 4294967296 := by omega
  have hp : (1 : Int) ≤ (2 ^ k.toNat : Nat) := by have := Nat.one_le_two_pow (n := k.toNat); omega
  refine iv_toInt ⟨?_, ?_⟩
  · have := Int.ediv_nonneg h0.1 (by omega : (0 : Int) ≤ (2 ^ k.toNat : Nat)); omega
  · rcases h1 with h1 | h1
    · have h2 : (2 : Int) ≤ (2 ^ k.toNat : Nat) := by
        have : 2 ^ 1 ≤ 2 ^ k.toNat := Nat.pow_le_pow_right (by decide) (by omega)
        omega
      refine Int.ediv_lt_of_lt_mul (by omega) ?_
      have := Int.mul_le_mul_of_nonneg_left h2 (by decide : (0 : Int) ≤ 2147483648)
      omega
    · exact Int.lt_of_le_of_lt (Int.ediv_le_self _ h1.1) h1.2
def bitI (d w : Int) : Int := and32 (shr32 d w) 1
theorem bitI_tb {d w : Int} (hd : 0 ≤ d ∧ d < 2147483648) (hw : 0 ≤ w ∧ w < 32) : bitI d w = if d.toNat.testBit w.toNat then 1 else 0 := by
  unfold bitI
  have hp : (1 : Int) ≤ (2 ^ w.toNat : Nat) := by have := Nat.one_le_two_pow (n := w.toNat); omega
  have h0 := Int.ediv_nonneg hd.1 (by omega : (0 : Int) ≤ (2 ^ w.toNat : Nat))
  have h1 := Int.ediv_le_self (2 ^ w.toNat : Nat) hd.1
  rw [shr32_eq ⟨by omega, hd.2⟩ hw, and32_pos ⟨h0, by omega⟩ (by decide)]
  have e : (d / (2 ^ w.toNat : Nat)).toNat = d.toNat / 2 ^ w.toNat := by
    have : d / (2 ^ w.toNat : Nat) = ((d.toNat / 2 ^ w.toNat : Nat) : Int) := by
      conv => lhs; rw [show d = ((d.toNat : Nat) : Int) from by omega]
      exact (Int.natCast_ediv _ _).symm
    rw [this, Int.toNat_natCast]
  rw [e, ← Nat.shiftRight_eq_div_pow]
  show ((d.toNat >>> w.toNat &&& 1 : Nat) : Int) = _
  rw [Nat.and_comm, Nat.testBit]
  rcases Nat.mod_two_eq_zero_or_one (d.toNat >>> w.toNat) with h | h
  · rw [Nat.one_and_eq_mod_two, h]; rfl
  · rw [Nat.one_and_eq_mod_two, h]; rfl
theorem bitI_or {d w v : Int} {n : Nat} (hd : 0 ≤ d ∧ d < 2147483648) (hw : 0 ≤ w ∧ w < 31) (hv : 0 ≤ v ∧ v < 32) (hn : n ≤ 31) (hdn : d.toNat < 2 ^ n) (hwn : w.toNat < n) : bitI (or32 d (shl32 1 w)) v = (if v = w then 1 else bitI d v) ∧ 0 ≤ or32 d (shl32 1 w) ∧ (or32 d (shl32 1 w)).toNat < 2 ^ n := by
  have p1 : 2 ^ w.toNat < 2 ^ n := Nat.pow_lt_pow_right (by decide) hwn
  have p2 : 2 ^ n ≤ 2 ^ 31 := Nat.pow_le_pow_right (by decide) hn
  have e1 : shl32 1 w = ((2 ^ w.toNat : Nat) : Int) := by
    have := shl32_eq (a := 1) (k := w) (by decide) (by omega) (by show 1 * _ < _; omega)
    rw [this]; show ((1 * 2 ^ w.toNat : Nat) : Int) = _; rw [Nat.one_mul]
  have e2 : or32 d (shl32 1 w) = ((d.toNat ||| 2 ^ w.toNat : Nat) : Int) := by
    rw [e1, or32_pos (b := ((2 ^ w.toNat : Nat) : Int)) hd ⟨Int.natCast_nonneg _, Int.ofNat_lt.mpr (Nat.lt_of_lt_of_le p1 p2)⟩, Int.toNat_natCast]
  have p3 := Nat.or_lt_two_pow hdn p1
  rw [e2, Int.toNat_natCast]
  refine ⟨?_, Int.natCast_nonneg _, p3⟩
  rw [bitI_tb (d := ((d.toNat ||| 2 ^ w.toNat : Nat) : Int)) ⟨Int.natCast_nonneg _, Int.ofNat_lt.mpr (Nat.lt_of_lt_of_le p3 p2)⟩ hv, bitI_tb hd hv, Int.toNat_natCast, Nat.testBit_or, Nat.testBit_two_pow]
  by_cases h : v = w
  · subst h; simp
  · rw [if_neg h]
    have : ¬ w.toNat = v.toNat := by omega
    simp [this]
theorem bitI_01 {d w : Int} (hd : 0 ≤ d ∧ d < 2147483648) (hw : 0 ≤ w ∧ w < 32) : bitI d w = 0 ∨ bitI d w = 1 := by
  rw [bitI_tb hd hw]; split <;> simp
