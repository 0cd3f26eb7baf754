theorem bs_a {s : Int} (h : 0 ≤ s ∧ s < 2147483648) : and32 s 1 = s % 2 := by
  rw [and32_pos h (by decide)]
  show ((s.toNat &&& 1 : Nat) : Int) = _
  rw [Nat.and_one_is_mod]; omega
theorem bs_u1 {s : Int} (h : 0 ≤ s ∧ s < 2147483648) : ushr32 s 1 = s / 2 := by
  rw [ushr32_eq s (by decide) (.inl (by decide))]; show s % 4294967296 / 2 = _; omega
theorem bs_u2 {s : Int} (h : 0 ≤ s ∧ s < 2147483648) : ushr32 s 2 = s / 4 := by
  rw [ushr32_eq s (by decide) (.inl (by decide))]; show s % 4294967296 / 4 = _; omega
theorem bs_l {s : Int} (h : 0 ≤ s ∧ s < 1073741824) : shl32 s 1 = 2 * s := by
  rw [shl32_eq (by omega) (by decide) (by show s.toNat * 2 < _; omega)]; show ((s.toNat * 2 : Nat) : Int) = _; omega
theorem bs_o {s b : Int} (h : 0 ≤ s ∧ s < 1073741824) (hb : b = 0 ∨ b = 1) : or32 (2 * s) b = 2 * s + b := by
  rw [or32_pos (by omega) (by omega)]
  have e := Nat.two_pow_add_eq_or_of_lt (i := 1) (b := b.toNat) (by omega) s.toNat
  have e2 : (2 * s).toNat = 2 ^ 1 * s.toNat := by omega
  rw [e2, ← e]; omega
theorem bs_o1 {s b : Int} (h : 0 ≤ s ∧ s < 1073741823) (hb : b = 0 ∨ b = 1) : or32 (2 * s + 1) b = 2 * s + 1 := by
  rw [or32_pos (by omega) (by omega)]
  have e := Nat.two_pow_add_eq_or_of_lt (i := 1) (b := 1) (by omega) s.toNat
  have e2 : (2 * s + 1).toNat = 2 ^ 1 * s.toNat + 1 := by omega
  rw [e2, e]
  rcases hb with rfl | rfl
  · show ((2 ^ 1 * s.toNat ||| 1 ||| 0 : Nat) : Int) = _
    rw [Nat.or_zero, ← e]; omega
  · show ((2 ^ 1 * s.toNat ||| 1 ||| 1 : Nat) : Int) = _
    rw [Nat.or_assoc, Nat.or_self, ← e]; omega
theorem bs_x {s : Int} (h : 0 ≤ s ∧ s < 1073741823) : xor32 s 1 = s / 2 * 2 + (1 - s % 2) := by
  rw [xor32_pos (by omega) (by decide)]
  show ((s.toNat ^^^ 1 : Nat) : Int) = _
  have e1 : (s.toNat ^^^ 1) / 2 = s.toNat / 2 := by rw [Nat.xor_div_two]; exact Nat.xor_zero _
  have e2 : (s.toNat ^^^ 1) % 2 = (s.toNat + 1) % 2 := by
    have q := @Nat.xor_mod_two_eq_one s.toNat 1
    by_cases h1 : s.toNat % 2 = 1
    · have : ¬ (s.toNat ^^^ 1) % 2 = 1 := fun z => q.mp z (by simp [h1])
      omega
    · have : (s.toNat ^^^ 1) % 2 = 1 := q.mpr (fun z => h1 (z.mpr rfl))
      omega
  omega
/-- a bit is laid on the pile -/
theorem bs_push {s b : Int} (h : 0 ≤ s ∧ s < 1073741824) (hb : b = 0 ∨ b = 1) : or32 (shl32 s 1) b = 2 * s + b := by rw [bs_l h, bs_o h hb]
/-- the two topmost bits become one -/
theorem bs_or {s a b : Int} (h : 0 ≤ s ∧ s < 100000000) (ha : a = 0 ∨ a = 1) (hb : b = 0 ∨ b = 1) : or32 (or32 (shl32 (ushr32 (2 * (2 * s + a) + b) 2) 1) (and32 (2 * (2 * s + a) + b) 1)) (and32 (ushr32 (2 * (2 * s + a) + b) 1) 1) = 2 * s + (if a = 0 then b else 1) := by
  rw [bs_u2 (by omega), bs_u1 (by omega), bs_a (by omega), bs_a (by omega), bs_l (by omega)]
  have e1 : (2 * (2 * s + a) + b) / 4 = s := by omega
  have e2 : (2 * (2 * s + a) + b) % 2 = b := by omega
  have e3 : (2 * (2 * s + a) + b) / 2 % 2 = a := by omega
  rw [e1, e2, e3, bs_o (by omega) hb]
  rcases hb with rfl | rfl
  · rw [Int.add_zero, bs_o (by omega) ha]; rcases ha with rfl | rfl <;> rfl
  · rw [bs_o1 (by omega) ha]; rcases ha with rfl | rfl <;> rfl
theorem bs_and {s a b : Int} (h : 0 ≤ s ∧ s < 100000000) (ha : a = 0 ∨ a = 1) (hb : b = 0 ∨ b = 1) : or32 (shl32 (ushr32 (2 * (2 * s + a) + b) 2) 1) (and32 (and32 (2 * (2 * s + a) + b) 1) (and32 (ushr32 (2 * (2 * s + a) + b) 1) 1)) = 2 * s + (if a = 0 then 0 else b) := by
  rw [bs_u2 (by omega), bs_u1 (by omega), bs_a (by omega), bs_a (by omega), bs_l (by omega)]
  have e1 : (2 * (2 * s + a) + b) / 4 = s := by omega
  have e2 : (2 * (2 * s + a) + b) % 2 = b := by omega
  have e3 : (2 * (2 * s + a) + b) / 2 % 2 = a := by omega
  rw [e1, e2, e3]
  have e4 : and32 b a = if a = 0 then 0 else b := by
    rcases ha with rfl | rfl
    · rw [and32_pos (by omega) (by decide), if_pos rfl]; show ((b.toNat &&& 0 : Nat) : Int) = 0; rw [Nat.and_zero]; rfl
    · rw [bs_a (by omega), if_neg (by decide)]; omega
  rw [e4, bs_o (by omega) (by split; exact .inl rfl; exact hb)]
theorem bs_not {s b : Int} (h : 0 ≤ s ∧ s < 100000000) (hb : b = 0 ∨ b = 1) : xor32 (2 * s + b) 1 = 2 * s + (if b = 0 then 1 else 0) := by
  rw [bs_x (by omega)]
  rcases hb with rfl | rfl
  · rw [if_pos rfl]; omega
  · rw [if_neg (by decide)]; omega
