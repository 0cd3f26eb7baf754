def wtl : List Int := [16998, 43219, 312166, 262838, 10656676, 6793144, 82408, 399749, 3210670, 423, 1111, 10631, 1162531, 10266418, 161437, 3217595, 110034928, 173214550, 283627748]
theorem wt_ex : ∃ f : Int → Int, ∀ k, f k = wtl.getD k.toNat 0 := ⟨_, fun _ => rfl⟩
noncomputable def wt : Int → Int := Classical.choose wt_ex
theorem wt_eq (k : Int) : wt k = wtl.getD k.toNat 0 := Classical.choose_spec wt_ex k
theorem wt_all : ∀ n, n < 19 → 0 ≤ wtl.getD n 0 ∧ wtl.getD n 0 < 400000000 := by decide +kernel
theorem wt_bd (k : Int) : 0 ≤ wt k ∧ wt k < 400000000 := by
  rw [wt_eq]
  by_cases h : k.toNat < 19
  · exact wt_all _ h
  · rw [List.getD_eq_getElem?_getD, List.getElem?_eq_none (by show 19 ≤ _; omega)]; decide
theorem wt_rng (k : Int) : -9223372036854775808 ≤ wt k ∧ wt k < 9223372036854775808 := by have := wt_bd k; omega
def spf (a b c d : Int) : Int := if 0 < d then 27 * (if 0 < c then 27 * (27 * (a - 96) + b - 96) + c - 96 else 27 * (a - 96) + b - 96) + d - 96 else (if 0 < c then 27 * (27 * (a - 96) + b - 96) + c - 96 else 27 * (a - 96) + b - 96)
def onf (v a b : Int) : Int := if 0 < b then 27 * (27 * v + a - 96) + b - 96 else 27 * v + a - 96
noncomputable def isNm (w : Int) : Bool := decide (w ≠ wt 0 ∧ w ≠ wt 1 ∧ w ≠ wt 2 ∧ w ≠ wt 3 ∧ w ≠ wt 4 ∧ w ≠ wt 5 ∧ w ≠ wt 6 ∧ w ≠ wt 7 ∧ w ≠ wt 8 ∧ w ≠ wt 9 ∧ w ≠ wt 10 ∧ w ≠ wt 11 ∧ w ≠ wt 12 ∧ w ≠ wt 13 ∧ w ≠ wt 14 ∧ w ≠ wt 15 ∧ w ≠ wt 16 ∧ w ≠ wt 17 ∧ w ≠ wt 18)
def fx (p : Int → Bool) : Nat → Int → Int
  | 0, _ => -1
  | n + 1, k => if p k then k else fx p n (k + 1)
theorem fx_bd (p : Int → Bool) : ∀ (n : Nat) (k : Int), fx p n k = -1 ∨ (k ≤ fx p n k ∧ fx p n k < k + n ∧ p (fx p n k) = true) := by
  intro n
  induction n with
  | zero => intro k; exact Or.inl rfl
  | succ n ih =>
    intro k
    unfold fx
    by_cases h : p k = true
    · rw [if_pos h]; exact Or.inr ⟨Int.le_refl k, by omega, h⟩
    · rw [if_neg h]
      rcases ih (k + 1) with q | ⟨q1, q2, q3⟩
      · exact Or.inl q
      · exact Or.inr ⟨by omega, by omega, q3⟩
/-- the first place among many names from b on that holds the word; at most twelve are looked at -/
def fd (J : Mj) (a : Nat) (b n : Int) : Int := fx (fun k => decide (gj J a (b + k).toNat = gj J 57 12)) (min n.toNat 12) 0
theorem fd_bd (J : Mj) (a : Nat) (b n : Int) : -1 ≤ fd J a b n ∧ fd J a b n < 12 ∧ (fd J a b n < n ∨ fd J a b n = -1) := by
  unfold fd
  rcases fx_bd (fun k => decide (gj J a (b + k).toNat = gj J 57 12)) (min n.toNat 12) 0 with h | ⟨h1, h2, -⟩
  · omega
  · omega
theorem fd_rng (J : Mj) (a : Nat) (b n : Int) : -2147483648 ≤ fd J a b n ∧ fd J a b n < 2147483648 := by have := fd_bd J a b n; omega

theorem iv_shr {a : Int} (ha : -2147483648 ≤ a ∧ a < 2147483648) {k : Nat} (hk : k < 32) : iv a >>> (iv (k : Int) &&& 31) = iv (a / (2 ^ k : Nat)) := by
  have hb : ((iv (k : Int) &&& 31).toBitVec.smod 32).toNat = k := by
    have : ∀ k, k < 32 → ((iv ((k : Nat) : Int) &&& 31).toBitVec.smod 32).toNat = k := by decide +kernel
    exact this k hk
  have hp : (0 : Int) < ((2 ^ k : Nat) : Int) := by have : 0 < 2 ^ k := Nat.pos_of_ne_zero (by simp); omega
  have h1 : a / ((2 ^ k : Nat) : Int) < 2147483648 := Int.ediv_lt_of_lt_mul hp (by
    have h2 : (2147483648 : Int) * 1 ≤ 2147483648 * ((2 ^ k : Nat) : Int) := Int.mul_le_mul_of_nonneg_left (by omega) (by decide)
    omega)
  have h3 : -2147483648 ≤ a / ((2 ^ k : Nat) : Int) := Int.le_ediv_of_mul_le hp (by
    have h2 : (-2147483648 : Int) * ((2 ^ k : Nat) : Int) ≤ -2147483648 * 1 := Int.mul_le_mul_of_nonpos_left (by decide) (by omega)
    omega)
  apply Int32.toInt_inj.mp
  rw [iv_toInt ⟨h3, h1⟩]
  show ((iv a >>> _).toBitVec).toInt = _
  rw [Int32.toBitVec_shiftRight, BitVec.sshiftRight_eq', hb, BitVec.toInt_sshiftRight, Int.shiftRight_eq_div_pow]
  show (iv a).toInt / _ = _
  rw [iv_toInt ha]
theorem iv_shl1 {k : Nat} (hk : k < 31) : iv 1 <<< (iv (k : Int) &&& 31) = iv ((2 ^ k : Nat) : Int) := by
  have : ∀ k, k < 31 → iv 1 <<< (iv ((k : Nat) : Int) &&& 31) = iv ((2 ^ k : Nat) : Int) := by decide +kernel
  exact this k hk

set_option maxHeartbeats 4000000 in
set_option maxRecDepth 100000 in
theorem qX10_spelt {G : Gx} {σ : State} (hC : Cz G σ) {sh : Sh} {I : Mi} {J : Mj} (a b a3 a4 : Int) (ra : -2147483648 ≤ a ∧ a < 2147483648) (rb : -2147483648 ≤ b ∧ b < 2147483648) (ra3 : -2147483648 ≤ a3 ∧ a3 < 2147483648) (ra4 : -2147483648 ≤ a4 ∧ a4 < 2147483648) : Ce G σ 1 yX10_spelt cX10_spelt 6 (some .long) [.int (iv (a)), .int (iv (b)), .int (iv (a3)), .int (iv (a4))] (sh, I, J) 0 0 (some (.long (jv (spf a b a3 a4)))) (sh, I, J) := by
  refine Ct.of hC (by decide +kernel) (Nat.le_of_ble_eq_true rfl) ?_
  intro p l e R s m args below meth c C
  show Jz G σ p l e R s m args below meth c 6 0 0 (Qx (some (.long (jv (spf a b a3 a4)))) (sh, I, J)) (sh, I, J) 0 0 0 [(0, .int (iv (a))), (1, .int (iv (b))), (2, .int (iv (a3))), (3, .int (iv (a4)))] []
  refine z_ldc2 C dX10_spelt_0 kX10_129 ?_
  refine z_iload_n C dX10_spelt_3 0 rfl ?_
  refine z_i2l (a) C dX10_spelt_4 (i2l_iv (by omega)) ?_
  refine z_ldc2 C dX10_spelt_5 kX10_131 ?_
  refine z_lsub C dX10_spelt_8 ?_
  refine z_lmul C dX10_spelt_9 ?_
  refine z_iload_n C dX10_spelt_10 1 rfl ?_
  refine z_i2l (b) C dX10_spelt_11 (i2l_iv (by omega)) ?_
  refine z_ladd C dX10_spelt_12 ?_
  refine z_ldc2 C dX10_spelt_13 kX10_131 ?_
  refine z_lsub C dX10_spelt_16 ?_
  refine z_naml (fun x1 hx1 => ?_)
  refine z_lstore (lv' := [(0, .int (iv (a))), (1, .int (iv (b))), (2, .int (iv (a3))), (3, .int (iv (a4))), (4, .long (jv (x1)))]) C dX10_spelt_17 (by decide) [1, 2, 3, 4, 0] rfl ?_
  refine z_iload_n C dX10_spelt_19 2 rfl ?_
  refine z_if_le 38 C dX10_spelt_20 (by decide) (by omega) (fun h2 => ?_) (fun h2 => ?_)
  ·
    refine z_iload_n C dX10_spelt_38 3 rfl ?_
    refine z_if_le 58 C dX10_spelt_39 (by decide) (by omega) (fun h3 => ?_) (fun h3 => ?_)
    ·
      refine z_lload C dX10_spelt_58 4 rfl ?_
      exact z_lreturnx C dX10_spelt_60 (by simp only [spf]; (repeat' split) <;> omega) rfl
    ·
      refine z_ldc2 C dX10_spelt_42 kX10_129 ?_
      refine z_lload C dX10_spelt_45 4 rfl ?_
      refine z_lmul C dX10_spelt_47 ?_
      refine z_iload_n C dX10_spelt_48 3 rfl ?_
      refine z_i2l (a4) C dX10_spelt_49 (i2l_iv (by omega)) ?_
      refine z_ladd C dX10_spelt_50 ?_
      refine z_ldc2 C dX10_spelt_51 kX10_131 ?_
      refine z_lsub C dX10_spelt_54 ?_
      refine z_goto 60 C dX10_spelt_55 (by decide) ?_
      exact z_lreturnx C dX10_spelt_60 (by simp only [spf]; (repeat' split) <;> omega) rfl
  ·
    refine z_ldc2 C dX10_spelt_23 kX10_129 ?_
    refine z_lload C dX10_spelt_26 4 rfl ?_
    refine z_lmul C dX10_spelt_28 ?_
    refine z_iload_n C dX10_spelt_29 2 rfl ?_
    refine z_i2l (a3) C dX10_spelt_30 (i2l_iv (by omega)) ?_
    refine z_ladd C dX10_spelt_31 ?_
    refine z_ldc2 C dX10_spelt_32 kX10_131 ?_
    refine z_lsub C dX10_spelt_35 ?_
    refine z_naml (fun x4 hx4 => ?_)
    refine z_lstore (lv' := [(0, .int (iv (a))), (1, .int (iv (b))), (2, .int (iv (a3))), (3, .int (iv (a4))), (4, .long (jv (x4)))]) C dX10_spelt_36 (by decide) [1, 2, 3, 4, 0] rfl ?_
    refine z_iload_n C dX10_spelt_38 3 rfl ?_
    refine z_if_le 58 C dX10_spelt_39 (by decide) (by omega) (fun h5 => ?_) (fun h5 => ?_)
    ·
      refine z_lload C dX10_spelt_58 4 rfl ?_
      exact z_lreturnx C dX10_spelt_60 (by simp only [spf]; (repeat' split) <;> omega) rfl
    ·
      refine z_ldc2 C dX10_spelt_42 kX10_129 ?_
      refine z_lload C dX10_spelt_45 4 rfl ?_
      refine z_lmul C dX10_spelt_47 ?_
      refine z_iload_n C dX10_spelt_48 3 rfl ?_
      refine z_i2l (a4) C dX10_spelt_49 (i2l_iv (by omega)) ?_
      refine z_ladd C dX10_spelt_50 ?_
      refine z_ldc2 C dX10_spelt_51 kX10_131 ?_
      refine z_lsub C dX10_spelt_54 ?_
      refine z_goto 60 C dX10_spelt_55 (by decide) ?_
      exact z_lreturnx C dX10_spelt_60 (by simp only [spf]; (repeat' split) <;> omega) rfl

set_option maxHeartbeats 4000000 in
set_option maxRecDepth 100000 in
theorem qX10_on {G : Gx} {σ : State} (hC : Cz G σ) {sh : Sh} {I : Mi} {J : Mj} (v a b : Int) (ra : -2147483648 ≤ a ∧ a < 2147483648) (rb : -2147483648 ≤ b ∧ b < 2147483648) : Ce G σ 1 yX10_on cX10_on 6 (some .long) [.long (jv (v)), .int (iv (a)), .int (iv (b))] (sh, I, J) 0 0 (some (.long (jv (onf v a b)))) (sh, I, J) := by
  refine Ct.of hC (by decide +kernel) (Nat.le_of_ble_eq_true rfl) ?_
  intro p l e R s m args below meth c C
  show Jz G σ p l e R s m args below meth c 6 0 0 (Qx (some (.long (jv (onf v a b)))) (sh, I, J)) (sh, I, J) 0 0 0 [(0, .long (jv (v))), (2, .int (iv (a))), (3, .int (iv (b)))] []
  refine z_ldc2 C dX10_on_0 kX10_129 ?_
  refine z_lload_n C dX10_on_3 0 rfl ?_
  refine z_lmul C dX10_on_4 ?_
  refine z_iload_n C dX10_on_5 1 rfl ?_
  refine z_i2l (a) C dX10_on_6 (i2l_iv (by omega)) ?_
  refine z_ladd C dX10_on_7 ?_
  refine z_ldc2 C dX10_on_8 kX10_131 ?_
  refine z_lsub C dX10_on_11 ?_
  refine z_naml (fun x1 hx1 => ?_)
  refine z_lstore (lv' := [(0, .long (jv (v))), (2, .int (iv (a))), (3, .int (iv (b))), (4, .long (jv (x1)))]) C dX10_on_12 (by decide) [1, 2, 3, 0] rfl ?_
  refine z_iload_n C dX10_on_14 2 rfl ?_
  refine z_if_le 34 C dX10_on_15 (by decide) (by omega) (fun h2 => ?_) (fun h2 => ?_)
  ·
    refine z_lload C dX10_on_34 3 rfl ?_
    exact z_lreturnx C dX10_on_36 (by simp only [onf]; split <;> omega) rfl
  ·
    refine z_ldc2 C dX10_on_18 kX10_129 ?_
    refine z_lload C dX10_on_21 3 rfl ?_
    refine z_lmul C dX10_on_23 ?_
    refine z_iload_n C dX10_on_24 2 rfl ?_
    refine z_i2l (b) C dX10_on_25 (i2l_iv (by omega)) ?_
    refine z_ladd C dX10_on_26 ?_
    refine z_ldc2 C dX10_on_27 kX10_131 ?_
    refine z_lsub C dX10_on_30 ?_
    refine z_goto 36 C dX10_on_31 (by decide) ?_
    exact z_lreturnx C dX10_on_36 (by simp only [onf]; split <;> omega) rfl

set_option maxHeartbeats 4000000 in
set_option maxRecDepth 100000 in
theorem qX10_wordOf {G : Gx} {σ : State} (hC : Cz G σ) {sh : Sh} {I : Mi} {J : Mj} (k : Int) (hk : 0 ≤ k ∧ k ≤ 18) : Ce G σ 2 yX10_wordOf cX10_wordOf 1 (some .long) [.int (iv (k))] (sh, I, J) 0 0 (some (.long (jv (wt k)))) (sh, I, J) := by
  refine Ct.of hC (by decide +kernel) (Nat.le_of_ble_eq_true rfl) ?_
  intro p l e R s m args below meth c C
  show Jz G σ p l e R s m args below meth c 1 0 0 (Qx (some (.long (jv (wt k)))) (sh, I, J)) (sh, I, J) 0 0 0 [(0, .int (iv (k)))] []
  refine z_iload_n C dX10_wordOf_0 0 rfl ?_
  by_cases h1 : k = 0
  ·
    refine z_tableIn (off := 87) 88 C dX10_wordOf_1 (by omega) (by omega) (by omega) (by rw [h1]; rfl) (by decide) ?_
    refine z_bipush C dX10_wordOf_88 (by decide) ?_
    refine z_bipush C dX10_wordOf_90 (by decide) ?_
    refine z_bipush C dX10_wordOf_92 (by decide) ?_
    refine z_iconst C dX10_wordOf_94 ?_
    refine z_cSl (st := []) C dX10_wordOf_95 mX10_133 (qX10_spelt hC 119 104 111 0 (by omega) (by omega) (by omega) (by omega)) rfl rfl (Nat.le_of_ble_eq_true rfl) (by decide) ?_
    exact z_lreturnx C dX10_wordOf_98 (by first | (subst_vars; rw [wt_eq]; decide +kernel) | (have h18 : k = 18 := (by omega); subst h18; rw [wt_eq]; decide +kernel)) rfl
  by_cases h2 : k = 1
  ·
    refine z_tableIn (off := 98) 99 C dX10_wordOf_1 (by omega) (by omega) (by omega) (by rw [h2]; rfl) (by decide) ?_
    refine z_bipush C dX10_wordOf_99 (by decide) ?_
    refine z_bipush C dX10_wordOf_101 (by decide) ?_
    refine z_bipush C dX10_wordOf_103 (by decide) ?_
    refine z_bipush C dX10_wordOf_105 (by decide) ?_
    refine z_cSl (st := []) C dX10_wordOf_107 mX10_133 (qX10_spelt hC 98 101 103 115 (by omega) (by omega) (by omega) (by omega)) rfl rfl (Nat.le_of_ble_eq_true rfl) (by decide) ?_
    exact z_lreturnx C dX10_wordOf_110 (by first | (subst_vars; rw [wt_eq]; decide +kernel) | (have h18 : k = 18 := (by omega); subst h18; rw [wt_eq]; decide +kernel)) rfl
  by_cases h3 : k = 2
  ·
    refine z_tableIn (off := 110) 111 C dX10_wordOf_1 (by omega) (by omega) (by omega) (by rw [h3]; rfl) (by decide) ?_
    refine z_bipush C dX10_wordOf_111 (by decide) ?_
    refine z_bipush C dX10_wordOf_113 (by decide) ?_
    refine z_bipush C dX10_wordOf_115 (by decide) ?_
    refine z_bipush C dX10_wordOf_117 (by decide) ?_
    refine z_cSl (st := []) C dX10_wordOf_119 mX10_133 (qX10_spelt hC 111 119 101 115 (by omega) (by omega) (by omega) (by omega)) rfl rfl (Nat.le_of_ble_eq_true rfl) (by decide) ?_
    exact z_lreturnx C dX10_wordOf_122 (by first | (subst_vars; rw [wt_eq]; decide +kernel) | (have h18 : k = 18 := (by omega); subst h18; rw [wt_eq]; decide +kernel)) rfl
  by_cases h4 : k = 3
  ·
    refine z_tableIn (off := 122) 123 C dX10_wordOf_1 (by omega) (by omega) (by omega) (by rw [h4]; rfl) (by decide) ?_
    refine z_bipush C dX10_wordOf_123 (by decide) ?_
    refine z_bipush C dX10_wordOf_125 (by decide) ?_
    refine z_bipush C dX10_wordOf_127 (by decide) ?_
    refine z_bipush C dX10_wordOf_129 (by decide) ?_
    refine z_cSl (st := []) C dX10_wordOf_131 mX10_133 (qX10_spelt hC 109 105 110 116 (by omega) (by omega) (by omega) (by omega)) rfl rfl (Nat.le_of_ble_eq_true rfl) (by decide) ?_
    exact z_lreturnx C dX10_wordOf_134 (by first | (subst_vars; rw [wt_eq]; decide +kernel) | (have h18 : k = 18 := (by omega); subst h18; rw [wt_eq]; decide +kernel)) rfl
  by_cases h5 : k = 4
  ·
    refine z_tableIn (off := 134) 135 C dX10_wordOf_1 (by omega) (by omega) (by omega) (by rw [h5]; rfl) (by decide) ?_
    refine z_bipush C dX10_wordOf_135 (by decide) ?_
    refine z_bipush C dX10_wordOf_137 (by decide) ?_
    refine z_bipush C dX10_wordOf_139 (by decide) ?_
    refine z_bipush C dX10_wordOf_141 (by decide) ?_
    refine z_cSl (st := []) C dX10_wordOf_143 mX10_133 (qX10_spelt hC 116 97 107 101 (by omega) (by omega) (by omega) (by omega)) rfl rfl (Nat.le_of_ble_eq_true rfl) (by decide) ?_
    refine z_bipush C dX10_wordOf_146 (by decide) ?_
    refine z_iconst C dX10_wordOf_148 ?_
    refine z_cSl (st := []) C dX10_wordOf_149 mX10_137 (qX10_on hC (spf 116 97 107 101) 115 0 (by omega) (by omega)) rfl rfl (Nat.le_of_ble_eq_true rfl) (by decide) ?_
    exact z_lreturnx C dX10_wordOf_152 (by first | (subst_vars; rw [wt_eq]; decide +kernel) | (have h18 : k = 18 := (by omega); subst h18; rw [wt_eq]; decide +kernel)) rfl
  by_cases h6 : k = 5
  ·
    refine z_tableIn (off := 152) 153 C dX10_wordOf_1 (by omega) (by omega) (by omega) (by rw [h6]; rfl) (by decide) ?_
    refine z_bipush C dX10_wordOf_153 (by decide) ?_
    refine z_bipush C dX10_wordOf_155 (by decide) ?_
    refine z_bipush C dX10_wordOf_157 (by decide) ?_
    refine z_bipush C dX10_wordOf_159 (by decide) ?_
    refine z_cSl (st := []) C dX10_wordOf_161 mX10_133 (qX10_spelt hC 108 117 99 107 (by omega) (by omega) (by omega) (by omega)) rfl rfl (Nat.le_of_ble_eq_true rfl) (by decide) ?_
    refine z_bipush C dX10_wordOf_164 (by decide) ?_
    refine z_iconst C dX10_wordOf_166 ?_
    refine z_cSl (st := []) C dX10_wordOf_167 mX10_137 (qX10_on hC (spf 108 117 99 107) 121 0 (by omega) (by omega)) rfl rfl (Nat.le_of_ble_eq_true rfl) (by decide) ?_
    exact z_lreturnx C dX10_wordOf_170 (by first | (subst_vars; rw [wt_eq]; decide +kernel) | (have h18 : k = 18 := (by omega); subst h18; rw [wt_eq]; decide +kernel)) rfl
  by_cases h7 : k = 6
  ·
    refine z_tableIn (off := 170) 171 C dX10_wordOf_1 (by omega) (by omega) (by omega) (by rw [h7]; rfl) (by decide) ?_
    refine z_bipush C dX10_wordOf_171 (by decide) ?_
    refine z_bipush C dX10_wordOf_173 (by decide) ?_
    refine z_bipush C dX10_wordOf_175 (by decide) ?_
    refine z_bipush C dX10_wordOf_177 (by decide) ?_
    refine z_cSl (st := []) C dX10_wordOf_179 mX10_133 (qX10_spelt hC 100 101 97 100 (by omega) (by omega) (by omega) (by omega)) rfl rfl (Nat.le_of_ble_eq_true rfl) (by decide) ?_
    exact z_lreturnx C dX10_wordOf_182 (by first | (subst_vars; rw [wt_eq]; decide +kernel) | (have h18 : k = 18 := (by omega); subst h18; rw [wt_eq]; decide +kernel)) rfl
  by_cases h8 : k = 7
  ·
    refine z_tableIn (off := 182) 183 C dX10_wordOf_1 (by omega) (by omega) (by omega) (by rw [h8]; rfl) (by decide) ?_
    refine z_bipush C dX10_wordOf_183 (by decide) ?_
    refine z_bipush C dX10_wordOf_185 (by decide) ?_
    refine z_bipush C dX10_wordOf_187 (by decide) ?_
    refine z_bipush C dX10_wordOf_189 (by decide) ?_
    refine z_cSl (st := []) C dX10_wordOf_191 mX10_133 (qX10_spelt hC 116 104 105 110 (by omega) (by omega) (by omega) (by omega)) rfl rfl (Nat.le_of_ble_eq_true rfl) (by decide) ?_
    exact z_lreturnx C dX10_wordOf_194 (by first | (subst_vars; rw [wt_eq]; decide +kernel) | (have h18 : k = 18 := (by omega); subst h18; rw [wt_eq]; decide +kernel)) rfl
  by_cases h9 : k = 8
  ·
    refine z_tableIn (off := 194) 195 C dX10_wordOf_1 (by omega) (by omega) (by omega) (by rw [h9]; rfl) (by decide) ?_
    refine z_bipush C dX10_wordOf_195 (by decide) ?_
    refine z_bipush C dX10_wordOf_197 (by decide) ?_
    refine z_bipush C dX10_wordOf_199 (by decide) ?_
    refine z_bipush C dX10_wordOf_201 (by decide) ?_
    refine z_cSl (st := []) C dX10_wordOf_203 mX10_133 (qX10_spelt hC 102 97 99 101 (by omega) (by omega) (by omega) (by omega)) rfl rfl (Nat.le_of_ble_eq_true rfl) (by decide) ?_
    refine z_bipush C dX10_wordOf_206 (by decide) ?_
    refine z_iconst C dX10_wordOf_208 ?_
    refine z_cSl (st := []) C dX10_wordOf_209 mX10_137 (qX10_on hC (spf 102 97 99 101) 115 0 (by omega) (by omega)) rfl rfl (Nat.le_of_ble_eq_true rfl) (by decide) ?_
    exact z_lreturnx C dX10_wordOf_212 (by first | (subst_vars; rw [wt_eq]; decide +kernel) | (have h18 : k = 18 := (by omega); subst h18; rw [wt_eq]; decide +kernel)) rfl
  by_cases h10 : k = 9
  ·
    refine z_tableIn (off := 212) 213 C dX10_wordOf_1 (by omega) (by omega) (by omega) (by rw [h10]; rfl) (by decide) ?_
    refine z_bipush C dX10_wordOf_213 (by decide) ?_
    refine z_bipush C dX10_wordOf_215 (by decide) ?_
    refine z_iconst C dX10_wordOf_217 ?_
    refine z_iconst C dX10_wordOf_218 ?_
    refine z_cSl (st := []) C dX10_wordOf_219 mX10_133 (qX10_spelt hC 111 114 0 0 (by omega) (by omega) (by omega) (by omega)) rfl rfl (Nat.le_of_ble_eq_true rfl) (by decide) ?_
    exact z_lreturnx C dX10_wordOf_222 (by first | (subst_vars; rw [wt_eq]; decide +kernel) | (have h18 : k = 18 := (by omega); subst h18; rw [wt_eq]; decide +kernel)) rfl
  by_cases h11 : k = 10
  ·
    refine z_tableIn (off := 222) 223 C dX10_wordOf_1 (by omega) (by omega) (by omega) (by rw [h11]; rfl) (by decide) ?_
    refine z_bipush C dX10_wordOf_223 (by decide) ?_
    refine z_bipush C dX10_wordOf_225 (by decide) ?_
    refine z_bipush C dX10_wordOf_227 (by decide) ?_
    refine z_iconst C dX10_wordOf_229 ?_
    refine z_cSl (st := []) C dX10_wordOf_230 mX10_133 (qX10_spelt hC 97 110 100 0 (by omega) (by omega) (by omega) (by omega)) rfl rfl (Nat.le_of_ble_eq_true rfl) (by decide) ?_
    exact z_lreturnx C dX10_wordOf_233 (by first | (subst_vars; rw [wt_eq]; decide +kernel) | (have h18 : k = 18 := (by omega); subst h18; rw [wt_eq]; decide +kernel)) rfl
  by_cases h12 : k = 11
  ·
    refine z_tableIn (off := 233) 234 C dX10_wordOf_1 (by omega) (by omega) (by omega) (by rw [h12]; rfl) (by decide) ?_
    refine z_bipush C dX10_wordOf_234 (by decide) ?_
    refine z_bipush C dX10_wordOf_236 (by decide) ?_
    refine z_bipush C dX10_wordOf_238 (by decide) ?_
    refine z_iconst C dX10_wordOf_240 ?_
    refine z_cSl (st := []) C dX10_wordOf_241 mX10_133 (qX10_spelt hC 110 111 116 0 (by omega) (by omega) (by omega) (by omega)) rfl rfl (Nat.le_of_ble_eq_true rfl) (by decide) ?_
    exact z_lreturnx C dX10_wordOf_244 (by first | (subst_vars; rw [wt_eq]; decide +kernel) | (have h18 : k = 18 := (by omega); subst h18; rw [wt_eq]; decide +kernel)) rfl
  by_cases h13 : k = 12
  ·
    refine z_tableIn (off := 244) 245 C dX10_wordOf_1 (by omega) (by omega) (by omega) (by rw [h13]; rfl) (by decide) ?_
    refine z_bipush C dX10_wordOf_245 (by decide) ?_
    refine z_bipush C dX10_wordOf_247 (by decide) ?_
    refine z_bipush C dX10_wordOf_249 (by decide) ?_
    refine z_bipush C dX10_wordOf_251 (by decide) ?_
    refine z_cSl (st := []) C dX10_wordOf_253 mX10_133 (qX10_spelt hC 98 101 97 114 (by omega) (by omega) (by omega) (by omega)) rfl rfl (Nat.le_of_ble_eq_true rfl) (by decide) ?_
    refine z_bipush C dX10_wordOf_256 (by decide) ?_
    refine z_iconst C dX10_wordOf_258 ?_
    refine z_cSl (st := []) C dX10_wordOf_259 mX10_137 (qX10_on hC (spf 98 101 97 114) 115 0 (by omega) (by omega)) rfl rfl (Nat.le_of_ble_eq_true rfl) (by decide) ?_
    exact z_lreturnx C dX10_wordOf_262 (by first | (subst_vars; rw [wt_eq]; decide +kernel) | (have h18 : k = 18 := (by omega); subst h18; rw [wt_eq]; decide +kernel)) rfl
  by_cases h14 : k = 13
  ·
    refine z_tableIn (off := 262) 263 C dX10_wordOf_1 (by omega) (by omega) (by omega) (by rw [h14]; rfl) (by decide) ?_
    refine z_bipush C dX10_wordOf_263 (by decide) ?_
    refine z_bipush C dX10_wordOf_265 (by decide) ?_
    refine z_bipush C dX10_wordOf_267 (by decide) ?_
    refine z_bipush C dX10_wordOf_269 (by decide) ?_
    refine z_cSl (st := []) C dX10_wordOf_271 mX10_133 (qX10_spelt hC 115 104 111 119 (by omega) (by omega) (by omega) (by omega)) rfl rfl (Nat.le_of_ble_eq_true rfl) (by decide) ?_
    refine z_bipush C dX10_wordOf_274 (by decide) ?_
    refine z_iconst C dX10_wordOf_276 ?_
    refine z_cSl (st := []) C dX10_wordOf_277 mX10_137 (qX10_on hC (spf 115 104 111 119) 115 0 (by omega) (by omega)) rfl rfl (Nat.le_of_ble_eq_true rfl) (by decide) ?_
    exact z_lreturnx C dX10_wordOf_280 (by first | (subst_vars; rw [wt_eq]; decide +kernel) | (have h18 : k = 18 := (by omega); subst h18; rw [wt_eq]; decide +kernel)) rfl
  by_cases h15 : k = 14
  ·
    refine z_tableIn (off := 280) 281 C dX10_wordOf_1 (by omega) (by omega) (by omega) (by rw [h15]; rfl) (by decide) ?_
    refine z_bipush C dX10_wordOf_281 (by decide) ?_
    refine z_bipush C dX10_wordOf_283 (by decide) ?_
    refine z_bipush C dX10_wordOf_285 (by decide) ?_
    refine z_bipush C dX10_wordOf_287 (by decide) ?_
    refine z_cSl (st := []) C dX10_wordOf_289 mX10_133 (qX10_spelt hC 104 101 108 100 (by omega) (by omega) (by omega) (by omega)) rfl rfl (Nat.le_of_ble_eq_true rfl) (by decide) ?_
    exact z_lreturnx C dX10_wordOf_292 (by first | (subst_vars; rw [wt_eq]; decide +kernel) | (have h18 : k = 18 := (by omega); subst h18; rw [wt_eq]; decide +kernel)) rfl
  by_cases h16 : k = 15
  ·
    refine z_tableIn (off := 292) 293 C dX10_wordOf_1 (by omega) (by omega) (by omega) (by rw [h16]; rfl) (by decide) ?_
    refine z_bipush C dX10_wordOf_293 (by decide) ?_
    refine z_bipush C dX10_wordOf_295 (by decide) ?_
    refine z_bipush C dX10_wordOf_297 (by decide) ?_
    refine z_bipush C dX10_wordOf_299 (by decide) ?_
    refine z_cSl (st := []) C dX10_wordOf_301 mX10_133 (qX10_spelt hC 102 97 108 115 (by omega) (by omega) (by omega) (by omega)) rfl rfl (Nat.le_of_ble_eq_true rfl) (by decide) ?_
    refine z_bipush C dX10_wordOf_304 (by decide) ?_
    refine z_iconst C dX10_wordOf_306 ?_
    refine z_cSl (st := []) C dX10_wordOf_307 mX10_137 (qX10_on hC (spf 102 97 108 115) 101 0 (by omega) (by omega)) rfl rfl (Nat.le_of_ble_eq_true rfl) (by decide) ?_
    exact z_lreturnx C dX10_wordOf_310 (by first | (subst_vars; rw [wt_eq]; decide +kernel) | (have h18 : k = 18 := (by omega); subst h18; rw [wt_eq]; decide +kernel)) rfl
  by_cases h17 : k = 16
  ·
    refine z_tableIn (off := 310) 311 C dX10_wordOf_1 (by omega) (by omega) (by omega) (by rw [h17]; rfl) (by decide) ?_
    refine z_bipush C dX10_wordOf_311 (by decide) ?_
    refine z_bipush C dX10_wordOf_313 (by decide) ?_
    refine z_bipush C dX10_wordOf_315 (by decide) ?_
    refine z_bipush C dX10_wordOf_317 (by decide) ?_
    refine z_cSl (st := []) C dX10_wordOf_319 mX10_133 (qX10_spelt hC 103 114 97 105 (by omega) (by omega) (by omega) (by omega)) rfl rfl (Nat.le_of_ble_eq_true rfl) (by decide) ?_
    refine z_bipush C dX10_wordOf_322 (by decide) ?_
    refine z_bipush C dX10_wordOf_324 (by decide) ?_
    refine z_cSl (st := []) C dX10_wordOf_326 mX10_137 (qX10_on hC (spf 103 114 97 105) 110 115 (by omega) (by omega)) rfl rfl (Nat.le_of_ble_eq_true rfl) (by decide) ?_
    exact z_lreturnx C dX10_wordOf_329 (by first | (subst_vars; rw [wt_eq]; decide +kernel) | (have h18 : k = 18 := (by omega); subst h18; rw [wt_eq]; decide +kernel)) rfl
  by_cases h18 : k = 17
  ·
    refine z_tableIn (off := 329) 330 C dX10_wordOf_1 (by omega) (by omega) (by omega) (by rw [h18]; rfl) (by decide) ?_
    refine z_bipush C dX10_wordOf_330 (by decide) ?_
    refine z_bipush C dX10_wordOf_332 (by decide) ?_
    refine z_bipush C dX10_wordOf_334 (by decide) ?_
    refine z_bipush C dX10_wordOf_336 (by decide) ?_
    refine z_cSl (st := []) C dX10_wordOf_338 mX10_133 (qX10_spelt hC 108 97 121 101 (by omega) (by omega) (by omega) (by omega)) rfl rfl (Nat.le_of_ble_eq_true rfl) (by decide) ?_
    refine z_bipush C dX10_wordOf_341 (by decide) ?_
    refine z_bipush C dX10_wordOf_343 (by decide) ?_
    refine z_cSl (st := []) C dX10_wordOf_345 mX10_137 (qX10_on hC (spf 108 97 121 101) 114 115 (by omega) (by omega)) rfl rfl (Nat.le_of_ble_eq_true rfl) (by decide) ?_
    exact z_lreturnx C dX10_wordOf_348 (by first | (subst_vars; rw [wt_eq]; decide +kernel) | (have h18 : k = 18 := (by omega); subst h18; rw [wt_eq]; decide +kernel)) rfl
  refine z_tableOut 349 C dX10_wordOf_1 (by omega) (by omega) (by decide) ?_
  refine z_bipush C dX10_wordOf_349 (by decide) ?_
  refine z_bipush C dX10_wordOf_351 (by decide) ?_
  refine z_bipush C dX10_wordOf_353 (by decide) ?_
  refine z_bipush C dX10_wordOf_355 (by decide) ?_
  refine z_cSl (st := []) C dX10_wordOf_357 mX10_133 (qX10_spelt hC 115 116 114 117 (by omega) (by omega) (by omega) (by omega)) rfl rfl (Nat.le_of_ble_eq_true rfl) (by decide) ?_
  refine z_bipush C dX10_wordOf_360 (by decide) ?_
  refine z_bipush C dX10_wordOf_362 (by decide) ?_
  refine z_cSl (st := []) C dX10_wordOf_364 mX10_137 (qX10_on hC (spf 115 116 114 117) 99 107 (by omega) (by omega)) rfl rfl (Nat.le_of_ble_eq_true rfl) (by decide) ?_
  exact z_lreturnx C dX10_wordOf_367 (by first | (subst_vars; rw [wt_eq]; decide +kernel) | (have h18 : k = 18 := (by omega); subst h18; rw [wt_eq]; decide +kernel)) rfl

set_option maxHeartbeats 4000000 in
set_option maxRecDepth 100000 in
theorem qX10_isWord {G : Gx} {σ : State} (hC : Cz G σ) {sh : Sh} {I : Mi} {J : Mj} (k : Int) (hS : St sh) (hk : 0 ≤ k ∧ k ≤ 18) : Ce G σ 3 yX10_isWord cX10_isWord 2 (some .boolean) [.ref (G.2.2 + 57), .int (iv (k))] (sh, I, J) 0 0 (some (.int (iv (b2 (gi I 57 7 = 2 ∧ gj J 57 12 = wt k))))) (sh, I, J) := by
  refine Ct.of hC (by decide +kernel) (Nat.le_of_ble_eq_true rfl) ?_
  intro p l e R s m args below meth c C
  show Jz G σ p l e R s m args below meth c 2 0 0 (Qx (some (.int (iv (b2 (gi I 57 7 = 2 ∧ gj J 57 12 = wt k))))) (sh, I, J)) (sh, I, J) 0 0 0 [(0, .ref (G.2.2 + 57)), (1, .int (iv (k)))] []
  refine z_aload_n C dX10_isWord_0 0 rfl ?_
  refine z_getI C dX10_isWord_1 fX10_105 rfl (kd_57 hS) ?_
  refine z_iconst C dX10_isWord_4 ?_
  refine z_icmp_ne 24 C dX10_isWord_5 (by decide) (gi_rng _ _ _) (by decide) (fun h1 => ?_) (fun h1 => ?_)
  ·
    refine z_iconst C dX10_isWord_24 ?_
    exact z_zreturnx C dX10_isWord_25 rfl (b2_f (fun q => absurd q.1 (by assumption))) rfl
  ·
    refine z_aload_n C dX10_isWord_8 0 rfl ?_
    refine z_getJ C dX10_isWord_9 fX10_118 rfl (kd_57 hS) ?_
    refine z_iload_n C dX10_isWord_12 1 rfl ?_
    refine z_cSl (st := [.long (jv (gj J 57 12))]) C dX10_isWord_13 mX10_141 (qX10_wordOf hC k hk) rfl rfl (Nat.le_of_ble_eq_true rfl) (by decide) ?_
    refine z_lcmp (cmpI (gj J 57 12) (wt k)) C dX10_isWord_16 (lcmp_jv (gj_rng _ _ _) (wt_rng _)) ?_
    refine z_if_ne_c 24 C dX10_isWord_17 (by decide) (fun h2 => ?_) (fun h2 => ?_)
    ·
      refine z_iconst C dX10_isWord_24 ?_
      exact z_zreturnx C dX10_isWord_25 rfl (b2_f (fun q => absurd q.2 (by assumption))) rfl
    ·
      refine z_iconst C dX10_isWord_20 ?_
      refine z_goto 25 C dX10_isWord_21 (by decide) ?_
      exact z_zreturnx C dX10_isWord_25 rfl (b2_t ⟨by assumption, by assumption⟩) rfl

set_option maxHeartbeats 4000000 in
set_option maxRecDepth 100000 in
theorem qX10_isSign {G : Gx} {σ : State} (hC : Cz G σ) {sh : Sh} {I : Mi} {J : Mj} (c0 : Int) (hS : St sh) (rc0 : -2147483648 ≤ c0 ∧ c0 < 2147483648) : Ce G σ 1 yX10_isSign cX10_isSign 2 (some .boolean) [.ref (G.2.2 + 57), .int (iv (c0))] (sh, I, J) 0 0 (some (.int (iv (b2 (gi I 57 7 = 4 ∧ gi I 57 9 = c0))))) (sh, I, J) := by
  refine Ct.of hC (by decide +kernel) (Nat.le_of_ble_eq_true rfl) ?_
  intro p l e R s m args below meth c C
  show Jz G σ p l e R s m args below meth c 2 0 0 (Qx (some (.int (iv (b2 (gi I 57 7 = 4 ∧ gi I 57 9 = c0))))) (sh, I, J)) (sh, I, J) 0 0 0 [(0, .ref (G.2.2 + 57)), (1, .int (iv (c0)))] []
  refine z_aload_n C dX10_isSign_0 0 rfl ?_
  refine z_getI C dX10_isSign_1 fX10_105 rfl (kd_57 hS) ?_
  refine z_iconst C dX10_isSign_4 ?_
  refine z_icmp_ne 20 C dX10_isSign_5 (by decide) (gi_rng _ _ _) (by decide) (fun h1 => ?_) (fun h1 => ?_)
  ·
    refine z_iconst C dX10_isSign_20 ?_
    exact z_zreturnx C dX10_isSign_21 rfl (b2_f (by omega)) rfl
  ·
    refine z_aload_n C dX10_isSign_8 0 rfl ?_
    refine z_getI C dX10_isSign_9 fX10_115 rfl (kd_57 hS) ?_
    refine z_iload_n C dX10_isSign_12 1 rfl ?_
    refine z_icmp_ne 20 C dX10_isSign_13 (by decide) (gi_rng _ _ _) (by omega) (fun h2 => ?_) (fun h2 => ?_)
    ·
      refine z_iconst C dX10_isSign_20 ?_
      exact z_zreturnx C dX10_isSign_21 rfl (b2_f (by omega)) rfl
    ·
      refine z_iconst C dX10_isSign_16 ?_
      refine z_goto 21 C dX10_isSign_17 (by decide) ?_
      exact z_zreturnx C dX10_isSign_21 rfl (b2_t (by omega)) rfl

set_option maxHeartbeats 4000000 in
set_option maxRecDepth 100000 in
theorem qX10_isName {G : Gx} {σ : State} (hC : Cz G σ) {sh : Sh} {I : Mi} {J : Mj}  (hS : St sh) : Ce G σ 3 yX10_isName cX10_isName 2 (some .boolean) [.ref (G.2.2 + 57)] (sh, I, J) 0 0 (some (.int (iv (b2 (gi I 57 7 = 2 ∧ isNm (gj J 57 12) = true))))) (sh, I, J) := by
  refine Ct.of hC (by decide +kernel) (Nat.le_of_ble_eq_true rfl) ?_
  intro p l e R s m args below meth c C
  show Jz G σ p l e R s m args below meth c 2 0 0 (Qx (some (.int (iv (b2 (gi I 57 7 = 2 ∧ isNm (gj J 57 12) = true))))) (sh, I, J)) (sh, I, J) 0 0 0 [(0, .ref (G.2.2 + 57))] []
  refine z_aload_n C dX10_isName_0 0 rfl ?_
  refine z_getI C dX10_isName_1 fX10_105 rfl (kd_57 hS) ?_
  refine z_iconst C dX10_isName_4 ?_
  refine z_icmp_eq 10 C dX10_isName_5 (by decide) (gi_rng _ _ _) (by decide) (fun h1 => ?_) (fun h1 => ?_)
  ·
    refine z_iconst C dX10_isName_10 ?_
    refine z_istore_n (lv' := [(0, .ref (G.2.2 + 57)), (1, .int (iv (0)))]) C dX10_isName_11 rfl (by decide) [1, 0] rfl ?_
    refine z_iload_n C dX10_isName_12 1 rfl ?_
    refine z_bipush C dX10_isName_13 (by decide) ?_
    refine z_icmp_gt 38 C dX10_isName_15 (by decide) (by decide) (by decide) (fun h2 => absurd h2 (by decide)) (fun h2 => ?_)
    refine z_aload_n C dX10_isName_18 0 rfl ?_
    refine z_getJ C dX10_isName_19 fX10_118 rfl (kd_57 hS) ?_
    refine z_iload_n C dX10_isName_22 1 rfl ?_
    refine z_cSl (st := [.long (jv (gj J 57 12))]) C dX10_isName_23 mX10_141 (qX10_wordOf hC 0 (by omega)) rfl rfl (Nat.le_of_ble_eq_true rfl) (by decide) ?_
    refine z_lcmp (cmpI (gj J 57 12) (wt 0)) C dX10_isName_26 (lcmp_jv (gj_rng _ _ _) (wt_rng _)) ?_
    refine z_if_ne_c 32 C dX10_isName_27 (by decide) (fun h3 => ?_) (fun h3 => ?_)
    ·
      refine z_iinc (lv' := [(0, .ref (G.2.2 + 57)), (1, .int (iv (1)))]) C dX10_isName_32 1 rfl (by decide) [1, 0] rfl ?_
      refine z_goto 12 C dX10_isName_35 (by decide) ?_
      refine z_iload_n C dX10_isName_12 1 rfl ?_
      refine z_bipush C dX10_isName_13 (by decide) ?_
      refine z_icmp_gt 38 C dX10_isName_15 (by decide) (by decide) (by decide) (fun h4 => absurd h4 (by decide)) (fun h4 => ?_)
      refine z_aload_n C dX10_isName_18 0 rfl ?_
      refine z_getJ C dX10_isName_19 fX10_118 rfl (kd_57 hS) ?_
      refine z_iload_n C dX10_isName_22 1 rfl ?_
      refine z_cSl (st := [.long (jv (gj J 57 12))]) C dX10_isName_23 mX10_141 (qX10_wordOf hC 1 (by omega)) rfl rfl (Nat.le_of_ble_eq_true rfl) (by decide) ?_
      refine z_lcmp (cmpI (gj J 57 12) (wt 1)) C dX10_isName_26 (lcmp_jv (gj_rng _ _ _) (wt_rng _)) ?_
      refine z_if_ne_c 32 C dX10_isName_27 (by decide) (fun h5 => ?_) (fun h5 => ?_)
      ·
        refine z_iinc (lv' := [(0, .ref (G.2.2 + 57)), (1, .int (iv (2)))]) C dX10_isName_32 1 rfl (by decide) [1, 0] rfl ?_
        refine z_goto 12 C dX10_isName_35 (by decide) ?_
        refine z_iload_n C dX10_isName_12 1 rfl ?_
        refine z_bipush C dX10_isName_13 (by decide) ?_
        refine z_icmp_gt 38 C dX10_isName_15 (by decide) (by decide) (by decide) (fun h6 => absurd h6 (by decide)) (fun h6 => ?_)
        refine z_aload_n C dX10_isName_18 0 rfl ?_
        refine z_getJ C dX10_isName_19 fX10_118 rfl (kd_57 hS) ?_
        refine z_iload_n C dX10_isName_22 1 rfl ?_
        refine z_cSl (st := [.long (jv (gj J 57 12))]) C dX10_isName_23 mX10_141 (qX10_wordOf hC 2 (by omega)) rfl rfl (Nat.le_of_ble_eq_true rfl) (by decide) ?_
        refine z_lcmp (cmpI (gj J 57 12) (wt 2)) C dX10_isName_26 (lcmp_jv (gj_rng _ _ _) (wt_rng _)) ?_
        refine z_if_ne_c 32 C dX10_isName_27 (by decide) (fun h7 => ?_) (fun h7 => ?_)
        ·
          refine z_iinc (lv' := [(0, .ref (G.2.2 + 57)), (1, .int (iv (3)))]) C dX10_isName_32 1 rfl (by decide) [1, 0] rfl ?_
          refine z_goto 12 C dX10_isName_35 (by decide) ?_
          refine z_iload_n C dX10_isName_12 1 rfl ?_
          refine z_bipush C dX10_isName_13 (by decide) ?_
          refine z_icmp_gt 38 C dX10_isName_15 (by decide) (by decide) (by decide) (fun h8 => absurd h8 (by decide)) (fun h8 => ?_)
          refine z_aload_n C dX10_isName_18 0 rfl ?_
          refine z_getJ C dX10_isName_19 fX10_118 rfl (kd_57 hS) ?_
          refine z_iload_n C dX10_isName_22 1 rfl ?_
          refine z_cSl (st := [.long (jv (gj J 57 12))]) C dX10_isName_23 mX10_141 (qX10_wordOf hC 3 (by omega)) rfl rfl (Nat.le_of_ble_eq_true rfl) (by decide) ?_
          refine z_lcmp (cmpI (gj J 57 12) (wt 3)) C dX10_isName_26 (lcmp_jv (gj_rng _ _ _) (wt_rng _)) ?_
          refine z_if_ne_c 32 C dX10_isName_27 (by decide) (fun h9 => ?_) (fun h9 => ?_)
          ·
            refine z_iinc (lv' := [(0, .ref (G.2.2 + 57)), (1, .int (iv (4)))]) C dX10_isName_32 1 rfl (by decide) [1, 0] rfl ?_
            refine z_goto 12 C dX10_isName_35 (by decide) ?_
            refine z_iload_n C dX10_isName_12 1 rfl ?_
            refine z_bipush C dX10_isName_13 (by decide) ?_
            refine z_icmp_gt 38 C dX10_isName_15 (by decide) (by decide) (by decide) (fun h10 => absurd h10 (by decide)) (fun h10 => ?_)
            refine z_aload_n C dX10_isName_18 0 rfl ?_
            refine z_getJ C dX10_isName_19 fX10_118 rfl (kd_57 hS) ?_
            refine z_iload_n C dX10_isName_22 1 rfl ?_
            refine z_cSl (st := [.long (jv (gj J 57 12))]) C dX10_isName_23 mX10_141 (qX10_wordOf hC 4 (by omega)) rfl rfl (Nat.le_of_ble_eq_true rfl) (by decide) ?_
            refine z_lcmp (cmpI (gj J 57 12) (wt 4)) C dX10_isName_26 (lcmp_jv (gj_rng _ _ _) (wt_rng _)) ?_
            refine z_if_ne_c 32 C dX10_isName_27 (by decide) (fun h11 => ?_) (fun h11 => ?_)
            ·
              refine z_iinc (lv' := [(0, .ref (G.2.2 + 57)), (1, .int (iv (5)))]) C dX10_isName_32 1 rfl (by decide) [1, 0] rfl ?_
              refine z_goto 12 C dX10_isName_35 (by decide) ?_
              refine z_iload_n C dX10_isName_12 1 rfl ?_
              refine z_bipush C dX10_isName_13 (by decide) ?_
              refine z_icmp_gt 38 C dX10_isName_15 (by decide) (by decide) (by decide) (fun h12 => absurd h12 (by decide)) (fun h12 => ?_)
              refine z_aload_n C dX10_isName_18 0 rfl ?_
              refine z_getJ C dX10_isName_19 fX10_118 rfl (kd_57 hS) ?_
              refine z_iload_n C dX10_isName_22 1 rfl ?_
              refine z_cSl (st := [.long (jv (gj J 57 12))]) C dX10_isName_23 mX10_141 (qX10_wordOf hC 5 (by omega)) rfl rfl (Nat.le_of_ble_eq_true rfl) (by decide) ?_
              refine z_lcmp (cmpI (gj J 57 12) (wt 5)) C dX10_isName_26 (lcmp_jv (gj_rng _ _ _) (wt_rng _)) ?_
              refine z_if_ne_c 32 C dX10_isName_27 (by decide) (fun h13 => ?_) (fun h13 => ?_)
              ·
                refine z_iinc (lv' := [(0, .ref (G.2.2 + 57)), (1, .int (iv (6)))]) C dX10_isName_32 1 rfl (by decide) [1, 0] rfl ?_
                refine z_goto 12 C dX10_isName_35 (by decide) ?_
                refine z_iload_n C dX10_isName_12 1 rfl ?_
                refine z_bipush C dX10_isName_13 (by decide) ?_
                refine z_icmp_gt 38 C dX10_isName_15 (by decide) (by decide) (by decide) (fun h14 => absurd h14 (by decide)) (fun h14 => ?_)
                refine z_aload_n C dX10_isName_18 0 rfl ?_
                refine z_getJ C dX10_isName_19 fX10_118 rfl (kd_57 hS) ?_
                refine z_iload_n C dX10_isName_22 1 rfl ?_
                refine z_cSl (st := [.long (jv (gj J 57 12))]) C dX10_isName_23 mX10_141 (qX10_wordOf hC 6 (by omega)) rfl rfl (Nat.le_of_ble_eq_true rfl) (by decide) ?_
                refine z_lcmp (cmpI (gj J 57 12) (wt 6)) C dX10_isName_26 (lcmp_jv (gj_rng _ _ _) (wt_rng _)) ?_
                refine z_if_ne_c 32 C dX10_isName_27 (by decide) (fun h15 => ?_) (fun h15 => ?_)
                ·
                  refine z_iinc (lv' := [(0, .ref (G.2.2 + 57)), (1, .int (iv (7)))]) C dX10_isName_32 1 rfl (by decide) [1, 0] rfl ?_
                  refine z_goto 12 C dX10_isName_35 (by decide) ?_
                  refine z_iload_n C dX10_isName_12 1 rfl ?_
                  refine z_bipush C dX10_isName_13 (by decide) ?_
                  refine z_icmp_gt 38 C dX10_isName_15 (by decide) (by decide) (by decide) (fun h16 => absurd h16 (by decide)) (fun h16 => ?_)
                  refine z_aload_n C dX10_isName_18 0 rfl ?_
                  refine z_getJ C dX10_isName_19 fX10_118 rfl (kd_57 hS) ?_
                  refine z_iload_n C dX10_isName_22 1 rfl ?_
                  refine z_cSl (st := [.long (jv (gj J 57 12))]) C dX10_isName_23 mX10_141 (qX10_wordOf hC 7 (by omega)) rfl rfl (Nat.le_of_ble_eq_true rfl) (by decide) ?_
                  refine z_lcmp (cmpI (gj J 57 12) (wt 7)) C dX10_isName_26 (lcmp_jv (gj_rng _ _ _) (wt_rng _)) ?_
                  refine z_if_ne_c 32 C dX10_isName_27 (by decide) (fun h17 => ?_) (fun h17 => ?_)
                  ·
                    refine z_iinc (lv' := [(0, .ref (G.2.2 + 57)), (1, .int (iv (8)))]) C dX10_isName_32 1 rfl (by decide) [1, 0] rfl ?_
                    refine z_goto 12 C dX10_isName_35 (by decide) ?_
                    refine z_iload_n C dX10_isName_12 1 rfl ?_
                    refine z_bipush C dX10_isName_13 (by decide) ?_
                    refine z_icmp_gt 38 C dX10_isName_15 (by decide) (by decide) (by decide) (fun h18 => absurd h18 (by decide)) (fun h18 => ?_)
                    refine z_aload_n C dX10_isName_18 0 rfl ?_
                    refine z_getJ C dX10_isName_19 fX10_118 rfl (kd_57 hS) ?_
                    refine z_iload_n C dX10_isName_22 1 rfl ?_
                    refine z_cSl (st := [.long (jv (gj J 57 12))]) C dX10_isName_23 mX10_141 (qX10_wordOf hC 8 (by omega)) rfl rfl (Nat.le_of_ble_eq_true rfl) (by decide) ?_
                    refine z_lcmp (cmpI (gj J 57 12) (wt 8)) C dX10_isName_26 (lcmp_jv (gj_rng _ _ _) (wt_rng _)) ?_
                    refine z_if_ne_c 32 C dX10_isName_27 (by decide) (fun h19 => ?_) (fun h19 => ?_)
                    ·
                      refine z_iinc (lv' := [(0, .ref (G.2.2 + 57)), (1, .int (iv (9)))]) C dX10_isName_32 1 rfl (by decide) [1, 0] rfl ?_
                      refine z_goto 12 C dX10_isName_35 (by decide) ?_
                      refine z_iload_n C dX10_isName_12 1 rfl ?_
                      refine z_bipush C dX10_isName_13 (by decide) ?_
                      refine z_icmp_gt 38 C dX10_isName_15 (by decide) (by decide) (by decide) (fun h20 => absurd h20 (by decide)) (fun h20 => ?_)
                      refine z_aload_n C dX10_isName_18 0 rfl ?_
                      refine z_getJ C dX10_isName_19 fX10_118 rfl (kd_57 hS) ?_
                      refine z_iload_n C dX10_isName_22 1 rfl ?_
                      refine z_cSl (st := [.long (jv (gj J 57 12))]) C dX10_isName_23 mX10_141 (qX10_wordOf hC 9 (by omega)) rfl rfl (Nat.le_of_ble_eq_true rfl) (by decide) ?_
                      refine z_lcmp (cmpI (gj J 57 12) (wt 9)) C dX10_isName_26 (lcmp_jv (gj_rng _ _ _) (wt_rng _)) ?_
                      refine z_if_ne_c 32 C dX10_isName_27 (by decide) (fun h21 => ?_) (fun h21 => ?_)
                      ·
                        refine z_iinc (lv' := [(0, .ref (G.2.2 + 57)), (1, .int (iv (10)))]) C dX10_isName_32 1 rfl (by decide) [1, 0] rfl ?_
                        refine z_goto 12 C dX10_isName_35 (by decide) ?_
                        refine z_iload_n C dX10_isName_12 1 rfl ?_
                        refine z_bipush C dX10_isName_13 (by decide) ?_
                        refine z_icmp_gt 38 C dX10_isName_15 (by decide) (by decide) (by decide) (fun h22 => absurd h22 (by decide)) (fun h22 => ?_)
                        refine z_aload_n C dX10_isName_18 0 rfl ?_
                        refine z_getJ C dX10_isName_19 fX10_118 rfl (kd_57 hS) ?_
                        refine z_iload_n C dX10_isName_22 1 rfl ?_
                        refine z_cSl (st := [.long (jv (gj J 57 12))]) C dX10_isName_23 mX10_141 (qX10_wordOf hC 10 (by omega)) rfl rfl (Nat.le_of_ble_eq_true rfl) (by decide) ?_
                        refine z_lcmp (cmpI (gj J 57 12) (wt 10)) C dX10_isName_26 (lcmp_jv (gj_rng _ _ _) (wt_rng _)) ?_
                        refine z_if_ne_c 32 C dX10_isName_27 (by decide) (fun h23 => ?_) (fun h23 => ?_)
                        ·
                          refine z_iinc (lv' := [(0, .ref (G.2.2 + 57)), (1, .int (iv (11)))]) C dX10_isName_32 1 rfl (by decide) [1, 0] rfl ?_
                          refine z_goto 12 C dX10_isName_35 (by decide) ?_
                          refine z_iload_n C dX10_isName_12 1 rfl ?_
                          refine z_bipush C dX10_isName_13 (by decide) ?_
                          refine z_icmp_gt 38 C dX10_isName_15 (by decide) (by decide) (by decide) (fun h24 => absurd h24 (by decide)) (fun h24 => ?_)
                          refine z_aload_n C dX10_isName_18 0 rfl ?_
                          refine z_getJ C dX10_isName_19 fX10_118 rfl (kd_57 hS) ?_
                          refine z_iload_n C dX10_isName_22 1 rfl ?_
                          refine z_cSl (st := [.long (jv (gj J 57 12))]) C dX10_isName_23 mX10_141 (qX10_wordOf hC 11 (by omega)) rfl rfl (Nat.le_of_ble_eq_true rfl) (by decide) ?_
                          refine z_lcmp (cmpI (gj J 57 12) (wt 11)) C dX10_isName_26 (lcmp_jv (gj_rng _ _ _) (wt_rng _)) ?_
                          refine z_if_ne_c 32 C dX10_isName_27 (by decide) (fun h25 => ?_) (fun h25 => ?_)
                          ·
                            refine z_iinc (lv' := [(0, .ref (G.2.2 + 57)), (1, .int (iv (12)))]) C dX10_isName_32 1 rfl (by decide) [1, 0] rfl ?_
                            refine z_goto 12 C dX10_isName_35 (by decide) ?_
                            refine z_iload_n C dX10_isName_12 1 rfl ?_
                            refine z_bipush C dX10_isName_13 (by decide) ?_
                            refine z_icmp_gt 38 C dX10_isName_15 (by decide) (by decide) (by decide) (fun h26 => absurd h26 (by decide)) (fun h26 => ?_)
                            refine z_aload_n C dX10_isName_18 0 rfl ?_
                            refine z_getJ C dX10_isName_19 fX10_118 rfl (kd_57 hS) ?_
                            refine z_iload_n C dX10_isName_22 1 rfl ?_
                            refine z_cSl (st := [.long (jv (gj J 57 12))]) C dX10_isName_23 mX10_141 (qX10_wordOf hC 12 (by omega)) rfl rfl (Nat.le_of_ble_eq_true rfl) (by decide) ?_
                            refine z_lcmp (cmpI (gj J 57 12) (wt 12)) C dX10_isName_26 (lcmp_jv (gj_rng _ _ _) (wt_rng _)) ?_
                            refine z_if_ne_c 32 C dX10_isName_27 (by decide) (fun h27 => ?_) (fun h27 => ?_)
                            ·
                              refine z_iinc (lv' := [(0, .ref (G.2.2 + 57)), (1, .int (iv (13)))]) C dX10_isName_32 1 rfl (by decide) [1, 0] rfl ?_
                              refine z_goto 12 C dX10_isName_35 (by decide) ?_
                              refine z_iload_n C dX10_isName_12 1 rfl ?_
                              refine z_bipush C dX10_isName_13 (by decide) ?_
                              refine z_icmp_gt 38 C dX10_isName_15 (by decide) (by decide) (by decide) (fun h28 => absurd h28 (by decide)) (fun h28 => ?_)
                              refine z_aload_n C dX10_isName_18 0 rfl ?_
                              refine z_getJ C dX10_isName_19 fX10_118 rfl (kd_57 hS) ?_
                              refine z_iload_n C dX10_isName_22 1 rfl ?_
                              refine z_cSl (st := [.long (jv (gj J 57 12))]) C dX10_isName_23 mX10_141 (qX10_wordOf hC 13 (by omega)) rfl rfl (Nat.le_of_ble_eq_true rfl) (by decide) ?_
                              refine z_lcmp (cmpI (gj J 57 12) (wt 13)) C dX10_isName_26 (lcmp_jv (gj_rng _ _ _) (wt_rng _)) ?_
                              refine z_if_ne_c 32 C dX10_isName_27 (by decide) (fun h29 => ?_) (fun h29 => ?_)
                              ·
                                refine z_iinc (lv' := [(0, .ref (G.2.2 + 57)), (1, .int (iv (14)))]) C dX10_isName_32 1 rfl (by decide) [1, 0] rfl ?_
                                refine z_goto 12 C dX10_isName_35 (by decide) ?_
                                refine z_iload_n C dX10_isName_12 1 rfl ?_
                                refine z_bipush C dX10_isName_13 (by decide) ?_
                                refine z_icmp_gt 38 C dX10_isName_15 (by decide) (by decide) (by decide) (fun h30 => absurd h30 (by decide)) (fun h30 => ?_)
                                refine z_aload_n C dX10_isName_18 0 rfl ?_
                                refine z_getJ C dX10_isName_19 fX10_118 rfl (kd_57 hS) ?_
                                refine z_iload_n C dX10_isName_22 1 rfl ?_
                                refine z_cSl (st := [.long (jv (gj J 57 12))]) C dX10_isName_23 mX10_141 (qX10_wordOf hC 14 (by omega)) rfl rfl (Nat.le_of_ble_eq_true rfl) (by decide) ?_
                                refine z_lcmp (cmpI (gj J 57 12) (wt 14)) C dX10_isName_26 (lcmp_jv (gj_rng _ _ _) (wt_rng _)) ?_
                                refine z_if_ne_c 32 C dX10_isName_27 (by decide) (fun h31 => ?_) (fun h31 => ?_)
                                ·
                                  refine z_iinc (lv' := [(0, .ref (G.2.2 + 57)), (1, .int (iv (15)))]) C dX10_isName_32 1 rfl (by decide) [1, 0] rfl ?_
                                  refine z_goto 12 C dX10_isName_35 (by decide) ?_
                                  refine z_iload_n C dX10_isName_12 1 rfl ?_
                                  refine z_bipush C dX10_isName_13 (by decide) ?_
                                  refine z_icmp_gt 38 C dX10_isName_15 (by decide) (by decide) (by decide) (fun h32 => absurd h32 (by decide)) (fun h32 => ?_)
                                  refine z_aload_n C dX10_isName_18 0 rfl ?_
                                  refine z_getJ C dX10_isName_19 fX10_118 rfl (kd_57 hS) ?_
                                  refine z_iload_n C dX10_isName_22 1 rfl ?_
                                  refine z_cSl (st := [.long (jv (gj J 57 12))]) C dX10_isName_23 mX10_141 (qX10_wordOf hC 15 (by omega)) rfl rfl (Nat.le_of_ble_eq_true rfl) (by decide) ?_
                                  refine z_lcmp (cmpI (gj J 57 12) (wt 15)) C dX10_isName_26 (lcmp_jv (gj_rng _ _ _) (wt_rng _)) ?_
                                  refine z_if_ne_c 32 C dX10_isName_27 (by decide) (fun h33 => ?_) (fun h33 => ?_)
                                  ·
                                    refine z_iinc (lv' := [(0, .ref (G.2.2 + 57)), (1, .int (iv (16)))]) C dX10_isName_32 1 rfl (by decide) [1, 0] rfl ?_
                                    refine z_goto 12 C dX10_isName_35 (by decide) ?_
                                    refine z_iload_n C dX10_isName_12 1 rfl ?_
                                    refine z_bipush C dX10_isName_13 (by decide) ?_
                                    refine z_icmp_gt 38 C dX10_isName_15 (by decide) (by decide) (by decide) (fun h34 => absurd h34 (by decide)) (fun h34 => ?_)
                                    refine z_aload_n C dX10_isName_18 0 rfl ?_
                                    refine z_getJ C dX10_isName_19 fX10_118 rfl (kd_57 hS) ?_
                                    refine z_iload_n C dX10_isName_22 1 rfl ?_
                                    refine z_cSl (st := [.long (jv (gj J 57 12))]) C dX10_isName_23 mX10_141 (qX10_wordOf hC 16 (by omega)) rfl rfl (Nat.le_of_ble_eq_true rfl) (by decide) ?_
                                    refine z_lcmp (cmpI (gj J 57 12) (wt 16)) C dX10_isName_26 (lcmp_jv (gj_rng _ _ _) (wt_rng _)) ?_
                                    refine z_if_ne_c 32 C dX10_isName_27 (by decide) (fun h35 => ?_) (fun h35 => ?_)
                                    ·
                                      refine z_iinc (lv' := [(0, .ref (G.2.2 + 57)), (1, .int (iv (17)))]) C dX10_isName_32 1 rfl (by decide) [1, 0] rfl ?_
                                      refine z_goto 12 C dX10_isName_35 (by decide) ?_
                                      refine z_iload_n C dX10_isName_12 1 rfl ?_
                                      refine z_bipush C dX10_isName_13 (by decide) ?_
                                      refine z_icmp_gt 38 C dX10_isName_15 (by decide) (by decide) (by decide) (fun h36 => absurd h36 (by decide)) (fun h36 => ?_)
                                      refine z_aload_n C dX10_isName_18 0 rfl ?_
                                      refine z_getJ C dX10_isName_19 fX10_118 rfl (kd_57 hS) ?_
                                      refine z_iload_n C dX10_isName_22 1 rfl ?_
                                      refine z_cSl (st := [.long (jv (gj J 57 12))]) C dX10_isName_23 mX10_141 (qX10_wordOf hC 17 (by omega)) rfl rfl (Nat.le_of_ble_eq_true rfl) (by decide) ?_
                                      refine z_lcmp (cmpI (gj J 57 12) (wt 17)) C dX10_isName_26 (lcmp_jv (gj_rng _ _ _) (wt_rng _)) ?_
                                      refine z_if_ne_c 32 C dX10_isName_27 (by decide) (fun h37 => ?_) (fun h37 => ?_)
                                      ·
                                        refine z_iinc (lv' := [(0, .ref (G.2.2 + 57)), (1, .int (iv (18)))]) C dX10_isName_32 1 rfl (by decide) [1, 0] rfl ?_
                                        refine z_goto 12 C dX10_isName_35 (by decide) ?_
                                        refine z_iload_n C dX10_isName_12 1 rfl ?_
                                        refine z_bipush C dX10_isName_13 (by decide) ?_
                                        refine z_icmp_gt 38 C dX10_isName_15 (by decide) (by decide) (by decide) (fun h38 => absurd h38 (by decide)) (fun h38 => ?_)
                                        refine z_aload_n C dX10_isName_18 0 rfl ?_
                                        refine z_getJ C dX10_isName_19 fX10_118 rfl (kd_57 hS) ?_
                                        refine z_iload_n C dX10_isName_22 1 rfl ?_
                                        refine z_cSl (st := [.long (jv (gj J 57 12))]) C dX10_isName_23 mX10_141 (qX10_wordOf hC 18 (by omega)) rfl rfl (Nat.le_of_ble_eq_true rfl) (by decide) ?_
                                        refine z_lcmp (cmpI (gj J 57 12) (wt 18)) C dX10_isName_26 (lcmp_jv (gj_rng _ _ _) (wt_rng _)) ?_
                                        refine z_if_ne_c 32 C dX10_isName_27 (by decide) (fun h39 => ?_) (fun h39 => ?_)
                                        ·
                                          refine z_iinc (lv' := [(0, .ref (G.2.2 + 57)), (1, .int (iv (19)))]) C dX10_isName_32 1 rfl (by decide) [1, 0] rfl ?_
                                          refine z_goto 12 C dX10_isName_35 (by decide) ?_
                                          refine z_iload_n C dX10_isName_12 1 rfl ?_
                                          refine z_bipush C dX10_isName_13 (by decide) ?_
                                          refine z_icmp_gt 38 C dX10_isName_15 (by decide) (by decide) (by decide) (fun h40 => ?_) (fun h40 => absurd h40 (by decide))
                                          refine z_iconst C dX10_isName_38 ?_
                                          exact z_zreturnx C dX10_isName_39 rfl (b2_t ⟨by assumption, by simp_all [isNm]⟩) rfl
                                        ·
                                          refine z_iconst C dX10_isName_30 ?_
                                          exact z_zreturnx C dX10_isName_31 rfl (b2_f (by simp_all [isNm])) rfl
                                      ·
                                        refine z_iconst C dX10_isName_30 ?_
                                        exact z_zreturnx C dX10_isName_31 rfl (b2_f (by simp_all [isNm])) rfl
                                    ·
                                      refine z_iconst C dX10_isName_30 ?_
                                      exact z_zreturnx C dX10_isName_31 rfl (b2_f (by simp_all [isNm])) rfl
                                  ·
                                    refine z_iconst C dX10_isName_30 ?_
                                    exact z_zreturnx C dX10_isName_31 rfl (b2_f (by simp_all [isNm])) rfl
                                ·
                                  refine z_iconst C dX10_isName_30 ?_
                                  exact z_zreturnx C dX10_isName_31 rfl (b2_f (by simp_all [isNm])) rfl
                              ·
                                refine z_iconst C dX10_isName_30 ?_
                                exact z_zreturnx C dX10_isName_31 rfl (b2_f (by simp_all [isNm])) rfl
                            ·
                              refine z_iconst C dX10_isName_30 ?_
                              exact z_zreturnx C dX10_isName_31 rfl (b2_f (by simp_all [isNm])) rfl
                          ·
                            refine z_iconst C dX10_isName_30 ?_
                            exact z_zreturnx C dX10_isName_31 rfl (b2_f (by simp_all [isNm])) rfl
                        ·
                          refine z_iconst C dX10_isName_30 ?_
                          exact z_zreturnx C dX10_isName_31 rfl (b2_f (by simp_all [isNm])) rfl
                      ·
                        refine z_iconst C dX10_isName_30 ?_
                        exact z_zreturnx C dX10_isName_31 rfl (b2_f (by simp_all [isNm])) rfl
                    ·
                      refine z_iconst C dX10_isName_30 ?_
                      exact z_zreturnx C dX10_isName_31 rfl (b2_f (by simp_all [isNm])) rfl
                  ·
                    refine z_iconst C dX10_isName_30 ?_
                    exact z_zreturnx C dX10_isName_31 rfl (b2_f (by simp_all [isNm])) rfl
                ·
                  refine z_iconst C dX10_isName_30 ?_
                  exact z_zreturnx C dX10_isName_31 rfl (b2_f (by simp_all [isNm])) rfl
              ·
                refine z_iconst C dX10_isName_30 ?_
                exact z_zreturnx C dX10_isName_31 rfl (b2_f (by simp_all [isNm])) rfl
            ·
              refine z_iconst C dX10_isName_30 ?_
              exact z_zreturnx C dX10_isName_31 rfl (b2_f (by simp_all [isNm])) rfl
          ·
            refine z_iconst C dX10_isName_30 ?_
            exact z_zreturnx C dX10_isName_31 rfl (b2_f (by simp_all [isNm])) rfl
        ·
          refine z_iconst C dX10_isName_30 ?_
          exact z_zreturnx C dX10_isName_31 rfl (b2_f (by simp_all [isNm])) rfl
      ·
        refine z_iconst C dX10_isName_30 ?_
        exact z_zreturnx C dX10_isName_31 rfl (b2_f (by simp_all [isNm])) rfl
    ·
      refine z_iconst C dX10_isName_30 ?_
      exact z_zreturnx C dX10_isName_31 rfl (b2_f (by simp_all [isNm])) rfl
  ·
    refine z_iconst C dX10_isName_8 ?_
    exact z_zreturnx C dX10_isName_9 rfl (b2_f (fun q => absurd q.1 (by assumption))) rfl

set_option maxHeartbeats 4000000 in
set_option maxRecDepth 100000 in
theorem qX10_findIn64 {G : Gx} {σ : State} (hC : Cz G σ) {sh : Sh} {I : Mi} {J : Mj} (b n : Int) (hS : St sh) (hb : 0 ≤ b ∧ b + 12 ≤ 20 ∧ 0 ≤ n ∧ b + n ≤ 12) : Ce G σ 1 yX10_findIn cX10_findIn 5 (some .int) [.ref (G.2.2 + 57), .ref (G.2.2 + 64), .int (iv (b)), .int (iv (n))] (sh, I, J) 0 0 (some (.int (iv (fd J 64 b n)))) (sh, I, J) := by
  refine Ct.of hC (by decide +kernel) (Nat.le_of_ble_eq_true rfl) ?_
  intro p l e R s m args below meth c C
  show Jz G σ p l e R s m args below meth c 5 0 0 (Qx (some (.int (iv (fd J 64 b n)))) (sh, I, J)) (sh, I, J) 0 0 0 [(0, .ref (G.2.2 + 57)), (1, .ref (G.2.2 + 64)), (2, .int (iv (b))), (3, .int (iv (n)))] []
  refine z_iconst C dX10_findIn_0 ?_
  refine z_istore (lv' := [(0, .ref (G.2.2 + 57)), (1, .ref (G.2.2 + 64)), (2, .int (iv (b))), (3, .int (iv (n))), (4, .int (iv (0)))]) C dX10_findIn_1 (by decide) [1, 2, 3, 4, 0] rfl ?_
  have hL2 : ∀ (N1 : Nat) (k : Int), (0 ≤ k ∧ k ≤ n) → (fx (fun k => decide (gj J 64 (b + k).toNat = gj J 57 12)) (min n.toNat 12 - k.toNat) k = fd J 64 b n) → (n - k).toNat < N1 → Jz G σ p l e R s m args below meth c 5 0 0 (Qx (some (.int (iv (fd J 64 b n)))) (sh, I, J)) (sh, I, J) 0 0 3 [(0, .ref (G.2.2 + 57)), (1, .ref (G.2.2 + 64)), (2, .int (iv (b))), (3, .int (iv (n))), (4, .int (iv (k)))] [] := by
    intro N1
    induction N1 with
    | zero => intro k hk hr hm; exact absurd hm (Nat.not_lt_zero _)
    | succ N1 ih3 =>
      intro k hk hr hm
      refine z_iload C dX10_findIn_3 4 rfl ?_
      refine z_iload_n C dX10_findIn_5 3 rfl ?_
      refine z_icmp_ge 32 C dX10_findIn_6 (by decide) (by omega) (by omega) (fun h4 => ?_) (fun h4 => ?_)
      ·
        refine z_iconst C dX10_findIn_32 ?_
        exact z_ireturnx C dX10_findIn_33 (by rw [← hr, show min n.toNat 12 - k.toNat = 0 by omega]; rfl) rfl
      ·
        refine z_aload_n C dX10_findIn_9 1 rfl ?_
        refine z_iload_n C dX10_findIn_10 2 rfl ?_
        refine z_iload C dX10_findIn_11 4 rfl ?_
        refine z_iadd C dX10_findIn_13 ?_
        refine z_lald (q := (b + k).toNat) C dX10_findIn_14 (ka_64 hS) (by omega) (by omega) ?_
        refine z_aload_n C dX10_findIn_15 0 rfl ?_
        refine z_getJ C dX10_findIn_16 fX10_118 rfl (kd_57 hS) ?_
        refine z_lcmp (cmpI (gj J 64 ((b + k).toNat)) (gj J 57 12)) C dX10_findIn_19 (lcmp_jv (gj_rng _ _ _) (gj_rng _ _ _)) ?_
        refine z_if_ne_c 26 C dX10_findIn_20 (by decide) (fun h5 => ?_) (fun h5 => ?_)
        ·
          have hne := h5
          refine z_iinc (lv' := [(0, .ref (G.2.2 + 57)), (1, .ref (G.2.2 + 64)), (2, .int (iv (b))), (3, .int (iv (n))), (4, .int (iv (k + 1)))]) C dX10_findIn_26 4 rfl (by decide) [1, 2, 3, 4, 0] rfl ?_
          refine z_goto 3 C dX10_findIn_29 (by decide) ?_
          exact ih3 (k + 1) (by omega) (by rw [← hr, show min n.toNat 12 - k.toNat = (min n.toNat 12 - (k + 1).toNat) + 1 by omega]; simp only [fx]; rw [if_neg (by simpa using hne)]) (by omega)
        ·
          have heq := h5
          refine z_iload C dX10_findIn_23 4 rfl ?_
          exact z_ireturnx C dX10_findIn_25 (by rw [← hr, show min n.toNat 12 - k.toNat = (min n.toNat 12 - (k + 1).toNat) + 1 by omega]; simp only [fx]; rw [if_pos (by simpa using heq)]) rfl
  exact hL2 _ (0) ⟨Int.le_refl 0, hb.2.2.1⟩ rfl (Nat.lt_succ_self _)

set_option maxHeartbeats 4000000 in
set_option maxRecDepth 100000 in
theorem qX10_findIn63 {G : Gx} {σ : State} (hC : Cz G σ) {sh : Sh} {I : Mi} {J : Mj} (b n : Int) (hS : St sh) (hb : 0 ≤ b ∧ b + 12 ≤ 20 ∧ 0 ≤ n ∧ b + n ≤ 12) : Ce G σ 1 yX10_findIn cX10_findIn 5 (some .int) [.ref (G.2.2 + 57), .ref (G.2.2 + 63), .int (iv (b)), .int (iv (n))] (sh, I, J) 0 0 (some (.int (iv (fd J 63 b n)))) (sh, I, J) := by
  refine Ct.of hC (by decide +kernel) (Nat.le_of_ble_eq_true rfl) ?_
  intro p l e R s m args below meth c C
  show Jz G σ p l e R s m args below meth c 5 0 0 (Qx (some (.int (iv (fd J 63 b n)))) (sh, I, J)) (sh, I, J) 0 0 0 [(0, .ref (G.2.2 + 57)), (1, .ref (G.2.2 + 63)), (2, .int (iv (b))), (3, .int (iv (n)))] []
  refine z_iconst C dX10_findIn_0 ?_
  refine z_istore (lv' := [(0, .ref (G.2.2 + 57)), (1, .ref (G.2.2 + 63)), (2, .int (iv (b))), (3, .int (iv (n))), (4, .int (iv (0)))]) C dX10_findIn_1 (by decide) [1, 2, 3, 4, 0] rfl ?_
  have hL2 : ∀ (N1 : Nat) (k : Int), (0 ≤ k ∧ k ≤ n) → (fx (fun k => decide (gj J 63 (b + k).toNat = gj J 57 12)) (min n.toNat 12 - k.toNat) k = fd J 63 b n) → (n - k).toNat < N1 → Jz G σ p l e R s m args below meth c 5 0 0 (Qx (some (.int (iv (fd J 63 b n)))) (sh, I, J)) (sh, I, J) 0 0 3 [(0, .ref (G.2.2 + 57)), (1, .ref (G.2.2 + 63)), (2, .int (iv (b))), (3, .int (iv (n))), (4, .int (iv (k)))] [] := by
    intro N1
    induction N1 with
    | zero => intro k hk hr hm; exact absurd hm (Nat.not_lt_zero _)
    | succ N1 ih3 =>
      intro k hk hr hm
      refine z_iload C dX10_findIn_3 4 rfl ?_
      refine z_iload_n C dX10_findIn_5 3 rfl ?_
      refine z_icmp_ge 32 C dX10_findIn_6 (by decide) (by omega) (by omega) (fun h4 => ?_) (fun h4 => ?_)
      ·
        refine z_iconst C dX10_findIn_32 ?_
        exact z_ireturnx C dX10_findIn_33 (by rw [← hr, show min n.toNat 12 - k.toNat = 0 by omega]; rfl) rfl
      ·
        refine z_aload_n C dX10_findIn_9 1 rfl ?_
        refine z_iload_n C dX10_findIn_10 2 rfl ?_
        refine z_iload C dX10_findIn_11 4 rfl ?_
        refine z_iadd C dX10_findIn_13 ?_
        refine z_lald (q := (b + k).toNat) C dX10_findIn_14 (ka_63 hS) (by omega) (by omega) ?_
        refine z_aload_n C dX10_findIn_15 0 rfl ?_
        refine z_getJ C dX10_findIn_16 fX10_118 rfl (kd_57 hS) ?_
        refine z_lcmp (cmpI (gj J 63 ((b + k).toNat)) (gj J 57 12)) C dX10_findIn_19 (lcmp_jv (gj_rng _ _ _) (gj_rng _ _ _)) ?_
        refine z_if_ne_c 26 C dX10_findIn_20 (by decide) (fun h5 => ?_) (fun h5 => ?_)
        ·
          have hne := h5
          refine z_iinc (lv' := [(0, .ref (G.2.2 + 57)), (1, .ref (G.2.2 + 63)), (2, .int (iv (b))), (3, .int (iv (n))), (4, .int (iv (k + 1)))]) C dX10_findIn_26 4 rfl (by decide) [1, 2, 3, 4, 0] rfl ?_
          refine z_goto 3 C dX10_findIn_29 (by decide) ?_
          exact ih3 (k + 1) (by omega) (by rw [← hr, show min n.toNat 12 - k.toNat = (min n.toNat 12 - (k + 1).toNat) + 1 by omega]; simp only [fx]; rw [if_neg (by simpa using hne)]) (by omega)
        ·
          have heq := h5
          refine z_iload C dX10_findIn_23 4 rfl ?_
          exact z_ireturnx C dX10_findIn_25 (by rw [← hr, show min n.toNat 12 - k.toNat = (min n.toNat 12 - (k + 1).toNat) + 1 by omega]; simp only [fx]; rw [if_pos (by simpa using heq)]) rfl
  exact hL2 _ (0) ⟨Int.le_refl 0, hb.2.2.1⟩ rfl (Nat.lt_succ_self _)

noncomputable def fX10_lay (S : Mi × Mj) : Int × Mi × Mj :=
  match S with
  | (I, J) =>
    if (gi I 57 22) = 0 then
      match fX10_plain59 ((wi I 57 22 1), J) with
      | (r2, I3, J4) =>
        (0, (wi (wi I3 59 110 (-1)) 59 111 (-1)), J4)
    else
      (0, I, J)
theorem frX10_lay {S : Mi × Mj} {r0 : Int} {I0 : Mi} {J0 : Mj} (h : fX10_lay  S = (r0, I0, J0)) (aq kq : Nat) (haq : ¬ (aq = 57 ∧ kq = 22) ∧ ¬ (aq = 59 ∧ kq = 110) ∧ ¬ (aq = 59 ∧ kq = 111) ∧ ¬ (aq = 59 ∧ kq = 4) ∧ ¬ (aq = 59 ∧ kq = 5) ∧ ¬ (aq = 59 ∧ kq = 6)) : I0 aq kq = S.1 aq kq := by
  obtain ⟨I, J⟩ := S
  unfold fX10_lay at h
  try simp only at h
  by_cases hq1 : (gi I 57 22) = 0
  · simp only [if_pos hq1] at h
    obtain ⟨⟨r2, I3, J4⟩, hq2⟩ : ∃ q, q = fX10_plain59 ((wi I 57 22 1), J) := ⟨_, rfl⟩
    rw [← hq2] at h; try simp only at h
    simp only [Prod.mk.injEq] at h
    obtain ⟨-, hI, hJ⟩ := h
    exact (congrFun (congrFun hI aq) kq).symm.trans (Eq.trans (wi_nc _ _ haq.2.2.1) (Eq.trans (wi_nc _ _ haq.2.1) (Eq.trans (frX10_plain59 hq2.symm aq kq ⟨haq.2.2.2.1, haq.2.2.2.2.1, haq.2.2.2.2.2⟩) (Eq.trans (wi_nc _ _ haq.1) rfl))))
  · simp only [if_neg hq1] at h
    simp only [Prod.mk.injEq] at h
    obtain ⟨-, hI, hJ⟩ := h
    exact (congrFun (congrFun hI aq) kq).symm.trans rfl
theorem fjX10_lay {S : Mi × Mj} {r0 : Int} {I0 : Mi} {J0 : Mj} (h : fX10_lay  S = (r0, I0, J0)) (aq kq : Nat) (haq : True) : J0 aq kq = S.2 aq kq := by
  obtain ⟨I, J⟩ := S
  unfold fX10_lay at h
  try simp only at h
  by_cases hq1 : (gi I 57 22) = 0
  · simp only [if_pos hq1] at h
    obtain ⟨⟨r2, I3, J4⟩, hq2⟩ : ∃ q, q = fX10_plain59 ((wi I 57 22 1), J) := ⟨_, rfl⟩
    rw [← hq2] at h; try simp only at h
    simp only [Prod.mk.injEq] at h
    obtain ⟨-, hI, hJ⟩ := h
    exact (congrFun (congrFun hJ aq) kq).symm.trans (Eq.trans (fjX10_plain59 hq2.symm aq kq trivial) rfl)
  · simp only [if_neg hq1] at h
    simp only [Prod.mk.injEq] at h
    obtain ⟨-, hI, hJ⟩ := h
    exact (congrFun (congrFun hJ aq) kq).symm.trans rfl
theorem okX10_lay {I : Mi} {J : Mj} {r0 : Int} {I0 : Mi} {J0 : Mj} (h : fX10_lay  (I, J) = (r0, I0, J0)) (hl : LX I) : LX I0 := by
  unfold fX10_lay at h
  try simp only at h
  have hb0 := hl
  unfold LX at hb0
  by_cases hq1 : (gi I 57 22) = 0
  · simp only [if_pos hq1] at h
    obtain ⟨⟨r2, I3, J4⟩, hq2⟩ : ∃ q, q = fX10_plain59 ((wi I 57 22 1), J) := ⟨_, rfl⟩
    rw [← hq2] at h; try simp only at h
    simp only [Prod.mk.injEq] at h
    obtain ⟨-, hI, hJ⟩ := h
    rw [← hI]
    exact (by have hb := hl; unfold LX at hb ⊢; have : gi (wi (wi I3 59 110 (-1)) 59 111 (-1)) 57 3 = gi I 57 3 := (Eq.trans (gi_wi_na _ _ _ _ (by decide)) (Eq.trans (gi_wi_na _ _ _ _ (by decide)) (Eq.trans (gi_fk (frX10_plain59 hq2.symm 57 3 (by decide))) (gi_wi_nk _ _ _ (by decide))))); have : gi (wi (wi I3 59 110 (-1)) 59 111 (-1)) 57 5 = gi I 57 5 := (Eq.trans (gi_wi_na _ _ _ _ (by decide)) (Eq.trans (gi_wi_na _ _ _ _ (by decide)) (Eq.trans (gi_fk (frX10_plain59 hq2.symm 57 5 (by decide))) (gi_wi_nk _ _ _ (by decide))))); have : gi (wi (wi I3 59 110 (-1)) 59 111 (-1)) 60 0 = gi I 60 0 := (Eq.trans (gi_wi_na _ _ _ _ (by decide)) (Eq.trans (gi_wi_na _ _ _ _ (by decide)) (Eq.trans (gi_fk (frX10_plain59 hq2.symm 60 0 (by decide))) (gi_wi_na _ _ _ _ (by decide))))); have : gi (wi (wi I3 59 110 (-1)) 59 111 (-1)) 60 1 = gi I 60 1 := (Eq.trans (gi_wi_na _ _ _ _ (by decide)) (Eq.trans (gi_wi_na _ _ _ _ (by decide)) (Eq.trans (gi_fk (frX10_plain59 hq2.symm 60 1 (by decide))) (gi_wi_na _ _ _ _ (by decide))))); have : gi (wi (wi I3 59 110 (-1)) 59 111 (-1)) 59 0 = gi I 59 0 := (Eq.trans (gi_wi_nk _ _ _ (by decide)) (Eq.trans (gi_wi_nk _ _ _ (by decide)) (Eq.trans (gi_fk (frX10_plain59 hq2.symm 59 0 (by decide))) (gi_wi_na _ _ _ _ (by decide))))); have : gi (wi (wi I3 59 110 (-1)) 59 111 (-1)) 57 24 = gi I 57 24 := (Eq.trans (gi_wi_na _ _ _ _ (by decide)) (Eq.trans (gi_wi_na _ _ _ _ (by decide)) (Eq.trans (gi_fk (frX10_plain59 hq2.symm 57 24 (by decide))) (gi_wi_nk _ _ _ (by decide))))); omega)
  · simp only [if_neg hq1] at h
    simp only [Prod.mk.injEq] at h
    obtain ⟨-, hI, hJ⟩ := h
    rw [← hI]
    exact hl
set_option maxHeartbeats 4000000 in
set_option maxRecDepth 100000 in
theorem qX10_lay {G : Gx} {σ : State} (hC : Cz G σ) {sh : Sh} {I : Mi} {J : Mj}  (hS : St sh) : Ce G σ 2 yX10_lay cX10_lay 1 none [.ref (G.2.2 + 57)] (sh, I, J) 0 0 none (sh, (fX10_lay (I, J)).2.1, (fX10_lay (I, J)).2.2) := by
  refine Ct.of hC (by decide +kernel) (Nat.le_of_ble_eq_true rfl) ?_
  intro p l e R s m args below meth c C
  show Jz G σ p l e R s m args below meth c 1 0 0 (Qx none (sh, (fX10_lay (I, J)).2.1, (fX10_lay (I, J)).2.2)) (sh, I, J) 0 0 0 [(0, .ref (G.2.2 + 57))] []
  refine z_aload_n C dX10_lay_0 0 rfl ?_
  refine z_getI C dX10_lay_1 fX10_174 rfl (kd_57 hS) ?_
  refine z_if_eq 8 C dX10_lay_4 (by decide) (gi_rng _ _ _) (fun h1 => ?_) (fun h1 => ?_)
  ·
    refine z_aload_n C dX10_lay_8 0 rfl ?_
    refine z_iconst C dX10_lay_9 ?_
    refine z_putI C dX10_lay_10 fX10_174 rfl rfl (kd_57 hS) (by rfl) rfl ?_
    refine z_aload_n C dX10_lay_13 0 rfl ?_
    refine z_aload_n C dX10_lay_14 0 rfl ?_
    refine z_getR C dX10_lay_15 fX10_13 rfl (kd_57 hS) (r_57_14 hS) ?_
    refine z_cVvF (st := []) (F := fX10_plain59 ((wi I 57 22 1), J)) C dX10_lay_18 mX10_178 (kd_57 hS) (qX10_plain59 hC  hS) rfl rfl (Nat.le_of_ble_eq_true rfl) (by decide) (fun r2 I3 J4 hT5 => ?_)
    refine z_aload_n C dX10_lay_21 0 rfl ?_
    refine z_getR C dX10_lay_22 fX10_13 rfl (kd_57 hS) (r_57_14 hS) ?_
    refine z_bipush C dX10_lay_25 (by decide) ?_
    refine z_iconst C dX10_lay_27 ?_
    refine z_iast (q := 110) C dX10_lay_28 (ka_59 hS) rfl (by decide) ?_
    refine z_aload_n C dX10_lay_29 0 rfl ?_
    refine z_getR C dX10_lay_30 fX10_13 rfl (kd_57 hS) (r_57_14 hS) ?_
    refine z_bipush C dX10_lay_33 (by decide) ?_
    refine z_iconst C dX10_lay_35 ?_
    refine z_iast (q := 111) C dX10_lay_36 (ka_59 hS) rfl (by decide) ?_
    have hf6 : fX10_lay (I, J) = (0, (wi (wi I3 59 110 (-1)) 59 111 (-1)), J4) := (by simp only [fX10_lay, if_pos h1, hT5])
    exact z_returnx C dX10_lay_37 (by rw [hf6])
  ·
    have hf7 : fX10_lay (I, J) = (0, I, J) := (by simp only [fX10_lay, if_neg h1])
    exact z_returnx C dX10_lay_7 (by rw [hf7])

noncomputable def fX10_readNumber (a : Int) (b : Int) (S : Mi × Mj) : Bool × Mi × Mj :=
  match S with
  | (I, J) =>
    if (gi I 57 7) = 3 then
      if a ≤ (gi I 57 8) ∧ (gi I 57 8) ≤ b then
        match fX10_go ((wi I 57 13 (gi I 57 8)), J) with
        | (r3, I4, J5) =>
          (true, I4, J5)
      else
        match fX10_bad 2 (I, J) with
        | (r9, I10, J11) =>
          (decide (r9 = true), I10, J11)
    else
      match fX10_bad 1 (I, J) with
      | (r15, I16, J17) =>
        (decide (r15 = true), I16, J17)
theorem frX10_readNumber {a : Int} {b : Int} {S : Mi × Mj} {r0 : Bool} {I0 : Mi} {J0 : Mj} (h : fX10_readNumber a b S = (r0, I0, J0)) (aq kq : Nat) (haq : ¬ (aq = 57 ∧ kq = 10) ∧ ¬ (aq = 57 ∧ kq = 11) ∧ ¬ (aq = 57 ∧ kq = 13) ∧ ¬ (aq = 57 ∧ kq = 5) ∧ ¬ (aq = 57 ∧ kq = 6) ∧ ¬ (aq = 57 ∧ kq = 7) ∧ ¬ (aq = 57 ∧ kq = 8) ∧ ¬ (aq = 57 ∧ kq = 9)) : I0 aq kq = S.1 aq kq := by
  obtain ⟨I, J⟩ := S
  unfold fX10_readNumber at h
  try simp only at h
  by_cases hq1 : (gi I 57 7) = 3
  · simp only [if_pos hq1] at h
    by_cases hq2 : a ≤ (gi I 57 8) ∧ (gi I 57 8) ≤ b
    · simp only [if_pos hq2] at h
      obtain ⟨⟨r3, I4, J5⟩, hq3⟩ : ∃ q, q = fX10_go ((wi I 57 13 (gi I 57 8)), J) := ⟨_, rfl⟩
      rw [← hq3] at h; try simp only at h
      simp only [Prod.mk.injEq] at h
      obtain ⟨-, hI, hJ⟩ := h
      exact (congrFun (congrFun hI aq) kq).symm.trans (Eq.trans (frX10_go hq3.symm aq kq ⟨haq.2.2.2.1, haq.2.2.2.2.1, haq.2.2.2.2.2.1, haq.2.2.2.2.2.2.1, haq.2.2.2.2.2.2.2⟩) (Eq.trans (wi_nc _ _ haq.2.2.1) rfl))
    · simp only [if_neg hq2] at h
      obtain ⟨⟨r9, I10, J11⟩, hq4⟩ : ∃ q, q = fX10_bad 2 (I, J) := ⟨_, rfl⟩
      rw [← hq4] at h; try simp only at h
      simp only [Prod.mk.injEq] at h
      obtain ⟨-, hI, hJ⟩ := h
      exact (congrFun (congrFun hI aq) kq).symm.trans (Eq.trans (frX10_bad hq4.symm aq kq ⟨haq.1, haq.2.1⟩) rfl)
  · simp only [if_neg hq1] at h
    obtain ⟨⟨r15, I16, J17⟩, hq5⟩ : ∃ q, q = fX10_bad 1 (I, J) := ⟨_, rfl⟩
    rw [← hq5] at h; try simp only at h
    simp only [Prod.mk.injEq] at h
    obtain ⟨-, hI, hJ⟩ := h
    exact (congrFun (congrFun hI aq) kq).symm.trans (Eq.trans (frX10_bad hq5.symm aq kq ⟨haq.1, haq.2.1⟩) rfl)
theorem fjX10_readNumber {a : Int} {b : Int} {S : Mi × Mj} {r0 : Bool} {I0 : Mi} {J0 : Mj} (h : fX10_readNumber a b S = (r0, I0, J0)) (aq kq : Nat) (haq : ¬ (aq = 57 ∧ kq = 12)) : J0 aq kq = S.2 aq kq := by
  obtain ⟨I, J⟩ := S
  unfold fX10_readNumber at h
  try simp only at h
  by_cases hq1 : (gi I 57 7) = 3
  · simp only [if_pos hq1] at h
    by_cases hq2 : a ≤ (gi I 57 8) ∧ (gi I 57 8) ≤ b
    · simp only [if_pos hq2] at h
      obtain ⟨⟨r3, I4, J5⟩, hq3⟩ : ∃ q, q = fX10_go ((wi I 57 13 (gi I 57 8)), J) := ⟨_, rfl⟩
      rw [← hq3] at h; try simp only at h
      simp only [Prod.mk.injEq] at h
      obtain ⟨-, hI, hJ⟩ := h
      exact (congrFun (congrFun hJ aq) kq).symm.trans (Eq.trans (fjX10_go hq3.symm aq kq haq) rfl)
    · simp only [if_neg hq2] at h
      obtain ⟨⟨r9, I10, J11⟩, hq4⟩ : ∃ q, q = fX10_bad 2 (I, J) := ⟨_, rfl⟩
      rw [← hq4] at h; try simp only at h
      simp only [Prod.mk.injEq] at h
      obtain ⟨-, hI, hJ⟩ := h
      exact (congrFun (congrFun hJ aq) kq).symm.trans (Eq.trans (fjX10_bad hq4.symm aq kq trivial) rfl)
  · simp only [if_neg hq1] at h
    obtain ⟨⟨r15, I16, J17⟩, hq5⟩ : ∃ q, q = fX10_bad 1 (I, J) := ⟨_, rfl⟩
    rw [← hq5] at h; try simp only at h
    simp only [Prod.mk.injEq] at h
    obtain ⟨-, hI, hJ⟩ := h
    exact (congrFun (congrFun hJ aq) kq).symm.trans (Eq.trans (fjX10_bad hq5.symm aq kq trivial) rfl)
theorem okX10_readNumber {a : Int} {b : Int} {I : Mi} {J : Mj} {r0 : Bool} {I0 : Mi} {J0 : Mj} (h : fX10_readNumber a b (I, J) = (r0, I0, J0)) (hl : LX I) : LX I0 := by
  unfold fX10_readNumber at h
  try simp only at h
  have hb0 := hl
  unfold LX at hb0
  by_cases hq1 : (gi I 57 7) = 3
  · simp only [if_pos hq1] at h
    by_cases hq2 : a ≤ (gi I 57 8) ∧ (gi I 57 8) ≤ b
    · simp only [if_pos hq2] at h
      obtain ⟨⟨r3, I4, J5⟩, hq3⟩ : ∃ q, q = fX10_go ((wi I 57 13 (gi I 57 8)), J) := ⟨_, rfl⟩
      rw [← hq3] at h; try simp only at h
      have hl3 : LX I4 := okX10_go hq3.symm (by have hb := hl; unfold LX at hb ⊢; have : gi (wi I 57 13 (gi I 57 8)) 57 3 = gi I 57 3 := (gi_wi_nk _ _ _ (by decide)); have : gi (wi I 57 13 (gi I 57 8)) 57 5 = gi I 57 5 := (gi_wi_nk _ _ _ (by decide)); have : gi (wi I 57 13 (gi I 57 8)) 60 0 = gi I 60 0 := (gi_wi_na _ _ _ _ (by decide)); have : gi (wi I 57 13 (gi I 57 8)) 60 1 = gi I 60 1 := (gi_wi_na _ _ _ _ (by decide)); have : gi (wi I 57 13 (gi I 57 8)) 59 0 = gi I 59 0 := (gi_wi_na _ _ _ _ (by decide)); have : gi (wi I 57 13 (gi I 57 8)) 57 24 = gi I 57 24 := (gi_wi_nk _ _ _ (by decide)); omega); have hbhl3 := hl3; unfold LX at hbhl3
      simp only [Prod.mk.injEq] at h
      obtain ⟨-, hI, hJ⟩ := h
      rw [← hI]
      exact hl3
    · simp only [if_neg hq2] at h
      obtain ⟨⟨r9, I10, J11⟩, hq4⟩ : ∃ q, q = fX10_bad 2 (I, J) := ⟨_, rfl⟩
      rw [← hq4] at h; try simp only at h
      have hl4 : LX I10 := okX10_bad hq4.symm hl; have hbhl4 := hl4; unfold LX at hbhl4
      simp only [Prod.mk.injEq] at h
      obtain ⟨-, hI, hJ⟩ := h
      rw [← hI]
      exact hl4
  · simp only [if_neg hq1] at h
    obtain ⟨⟨r15, I16, J17⟩, hq5⟩ : ∃ q, q = fX10_bad 1 (I, J) := ⟨_, rfl⟩
    rw [← hq5] at h; try simp only at h
    have hl5 : LX I16 := okX10_bad hq5.symm hl; have hbhl5 := hl5; unfold LX at hbhl5
    simp only [Prod.mk.injEq] at h
    obtain ⟨-, hI, hJ⟩ := h
    rw [← hI]
    exact hl5
set_option maxHeartbeats 4000000 in
set_option maxRecDepth 100000 in
theorem qX10_readNumber {G : Gx} {σ : State} (hC : Cz G σ) {sh : Sh} {I : Mi} {J : Mj} (a b : Int) (hS : St sh) (hl : LX I) (ra : -2147483648 ≤ a ∧ a < 2147483648) (rb : -2147483648 ≤ b ∧ b < 2147483648) : Ce G σ 3 yX10_readNumber cX10_readNumber 3 (some .boolean) [.ref (G.2.2 + 57), .int (iv (a)), .int (iv (b))] (sh, I, J) 0 0 (some (.int (iv (b2 ((fX10_readNumber a b (I, J)).1 = true))))) (sh, (fX10_readNumber a b (I, J)).2.1, (fX10_readNumber a b (I, J)).2.2) := by
  refine Ct.of hC (by decide +kernel) (Nat.le_of_ble_eq_true rfl) ?_
  intro p l e R s m args below meth c C
  show Jz G σ p l e R s m args below meth c 3 0 0 (Qx (some (.int (iv (b2 ((fX10_readNumber a b (I, J)).1 = true))))) (sh, (fX10_readNumber a b (I, J)).2.1, (fX10_readNumber a b (I, J)).2.2)) (sh, I, J) 0 0 0 [(0, .ref (G.2.2 + 57)), (1, .int (iv (a))), (2, .int (iv (b)))] []
  refine z_aload_n C dX10_readNumber_0 0 rfl ?_
  refine z_getI C dX10_readNumber_1 fX10_105 rfl (kd_57 hS) ?_
  refine z_iconst C dX10_readNumber_4 ?_
  refine z_icmp_eq 14 C dX10_readNumber_5 (by decide) (gi_rng _ _ _) (by decide) (fun h1 => ?_) (fun h1 => ?_)
  ·
    refine z_aload_n C dX10_readNumber_14 0 rfl ?_
    refine z_getI C dX10_readNumber_15 fX10_122 rfl (kd_57 hS) ?_
    refine z_iload_n C dX10_readNumber_18 1 rfl ?_
    refine z_iload_n C dX10_readNumber_19 2 rfl ?_
    refine z_cSi (st := []) C dX10_readNumber_20 mX10_154 (qX10_isIn hC (gi I 57 8) a b (by have := gi_rng I 57 8; omega) ra rb) rfl rfl (Nat.le_of_ble_eq_true rfl) (by decide) ?_
    refine z_if_ne_b 32 C dX10_readNumber_23 (by decide) (fun h2 => ?_) (fun h2 => ?_)
    ·
      refine z_aload_n C dX10_readNumber_32 0 rfl ?_
      refine z_aload_n C dX10_readNumber_33 0 rfl ?_
      refine z_getI C dX10_readNumber_34 fX10_122 rfl (kd_57 hS) ?_
      refine z_putI C dX10_readNumber_37 fX10_158 rfl rfl (kd_57 hS) rfl rfl ?_
      refine z_aload_n C dX10_readNumber_40 0 rfl ?_
      refine z_cVvF (st := []) (F := fX10_go ((wi I 57 13 (gi I 57 8)), J)) C dX10_readNumber_41 mX10_161 (kd_57 hS) (qX10_go hC  hS (by have hb := hl; unfold LX at hb ⊢; have : gi (wi I 57 13 (gi I 57 8)) 57 3 = gi I 57 3 := (gi_wi_nk _ _ _ (by decide)); have : gi (wi I 57 13 (gi I 57 8)) 57 5 = gi I 57 5 := (gi_wi_nk _ _ _ (by decide)); have : gi (wi I 57 13 (gi I 57 8)) 60 0 = gi I 60 0 := (gi_wi_na _ _ _ _ (by decide)); have : gi (wi I 57 13 (gi I 57 8)) 60 1 = gi I 60 1 := (gi_wi_na _ _ _ _ (by decide)); have : gi (wi I 57 13 (gi I 57 8)) 59 0 = gi I 59 0 := (gi_wi_na _ _ _ _ (by decide)); have : gi (wi I 57 13 (gi I 57 8)) 57 24 = gi I 57 24 := (gi_wi_nk _ _ _ (by decide)); omega)) rfl rfl (Nat.le_of_ble_eq_true rfl) (by decide) (fun r3 I4 J5 hT6 => ?_)
      have hl7 : LX I4 := okX10_go hT6 (by have hb := hl; unfold LX at hb ⊢; have : gi (wi I 57 13 (gi I 57 8)) 57 3 = gi I 57 3 := (gi_wi_nk _ _ _ (by decide)); have : gi (wi I 57 13 (gi I 57 8)) 57 5 = gi I 57 5 := (gi_wi_nk _ _ _ (by decide)); have : gi (wi I 57 13 (gi I 57 8)) 60 0 = gi I 60 0 := (gi_wi_na _ _ _ _ (by decide)); have : gi (wi I 57 13 (gi I 57 8)) 60 1 = gi I 60 1 := (gi_wi_na _ _ _ _ (by decide)); have : gi (wi I 57 13 (gi I 57 8)) 59 0 = gi I 59 0 := (gi_wi_na _ _ _ _ (by decide)); have : gi (wi I 57 13 (gi I 57 8)) 57 24 = gi I 57 24 := (gi_wi_nk _ _ _ (by decide)); omega); have hbhl7 := hl7; unfold LX at hbhl7
      refine z_iconst C dX10_readNumber_44 ?_
      have hf8 : fX10_readNumber a b (I, J) = (true, I4, J5) := (by simp only [fX10_readNumber, if_pos h1, if_pos h2, hT6])
      exact z_zreturnx C dX10_readNumber_45 rfl (by rw [hf8]; rfl) (by rw [hf8])
    ·
      refine z_aload_n C dX10_readNumber_26 0 rfl ?_
      refine z_iconst C dX10_readNumber_27 ?_
      refine z_cVibF (st := []) (F := fX10_bad 2 (I, J)) C dX10_readNumber_28 mX10_151 (kd_57 hS) (qX10_bad hC 2 hS (by omega)) rfl rfl (Nat.le_of_ble_eq_true rfl) (by decide) (fun r9 I10 J11 hT12 => ?_)
      have hl13 : LX I10 := okX10_bad hT12 hl; have hbhl13 := hl13; unfold LX at hbhl13
      have hf14 : fX10_readNumber a b (I, J) = (decide (r9 = true), I10, J11) := (by simp only [fX10_readNumber, if_pos h1, if_neg h2, hT12])
      exact z_zreturnx C dX10_readNumber_31 (b2_nar _) (by rw [hf14]; simp [b2]) (by rw [hf14])
  ·
    refine z_aload_n C dX10_readNumber_8 0 rfl ?_
    refine z_iconst C dX10_readNumber_9 ?_
    refine z_cVibF (st := []) (F := fX10_bad 1 (I, J)) C dX10_readNumber_10 mX10_151 (kd_57 hS) (qX10_bad hC 1 hS (by omega)) rfl rfl (Nat.le_of_ble_eq_true rfl) (by decide) (fun r15 I16 J17 hT18 => ?_)
    have hl19 : LX I16 := okX10_bad hT18 hl; have hbhl19 := hl19; unfold LX at hbhl19
    have hf20 : fX10_readNumber a b (I, J) = (decide (r15 = true), I16, J17) := (by simp only [fX10_readNumber, if_neg h1, hT18])
    exact z_zreturnx C dX10_readNumber_13 (b2_nar _) (by rw [hf20]; simp [b2]) (by rw [hf20])

noncomputable def fX10_readEnd (S : Mi × Mj) : Bool × Mi × Mj :=
  match S with
  | (I, J) =>
    if gi I 57 7 = 4 ∧ gi I 57 9 = 59 then
      match fX10_go (I, J) with
      | (r2, I3, J4) =>
        (true, I3, J4)
    else
      match fX10_bad 1 (I, J) with
      | (r8, I9, J10) =>
        (decide (r8 = true), I9, J10)
theorem frX10_readEnd {S : Mi × Mj} {r0 : Bool} {I0 : Mi} {J0 : Mj} (h : fX10_readEnd  S = (r0, I0, J0)) (aq kq : Nat) (haq : ¬ (aq = 57 ∧ kq = 10) ∧ ¬ (aq = 57 ∧ kq = 11) ∧ ¬ (aq = 57 ∧ kq = 5) ∧ ¬ (aq = 57 ∧ kq = 6) ∧ ¬ (aq = 57 ∧ kq = 7) ∧ ¬ (aq = 57 ∧ kq = 8) ∧ ¬ (aq = 57 ∧ kq = 9)) : I0 aq kq = S.1 aq kq := by
  obtain ⟨I, J⟩ := S
  unfold fX10_readEnd at h
  try simp only at h
  by_cases hq1 : gi I 57 7 = 4 ∧ gi I 57 9 = 59
  · simp only [if_pos hq1] at h
    obtain ⟨⟨r2, I3, J4⟩, hq2⟩ : ∃ q, q = fX10_go (I, J) := ⟨_, rfl⟩
    rw [← hq2] at h; try simp only at h
    simp only [Prod.mk.injEq] at h
    obtain ⟨-, hI, hJ⟩ := h
    exact (congrFun (congrFun hI aq) kq).symm.trans (Eq.trans (frX10_go hq2.symm aq kq ⟨haq.2.2.1, haq.2.2.2.1, haq.2.2.2.2.1, haq.2.2.2.2.2.1, haq.2.2.2.2.2.2⟩) rfl)
  · simp only [if_neg hq1] at h
    obtain ⟨⟨r8, I9, J10⟩, hq3⟩ : ∃ q, q = fX10_bad 1 (I, J) := ⟨_, rfl⟩
    rw [← hq3] at h; try simp only at h
    simp only [Prod.mk.injEq] at h
    obtain ⟨-, hI, hJ⟩ := h
    exact (congrFun (congrFun hI aq) kq).symm.trans (Eq.trans (frX10_bad hq3.symm aq kq ⟨haq.1, haq.2.1⟩) rfl)
theorem fjX10_readEnd {S : Mi × Mj} {r0 : Bool} {I0 : Mi} {J0 : Mj} (h : fX10_readEnd  S = (r0, I0, J0)) (aq kq : Nat) (haq : ¬ (aq = 57 ∧ kq = 12)) : J0 aq kq = S.2 aq kq := by
  obtain ⟨I, J⟩ := S
  unfold fX10_readEnd at h
  try simp only at h
  by_cases hq1 : gi I 57 7 = 4 ∧ gi I 57 9 = 59
  · simp only [if_pos hq1] at h
    obtain ⟨⟨r2, I3, J4⟩, hq2⟩ : ∃ q, q = fX10_go (I, J) := ⟨_, rfl⟩
    rw [← hq2] at h; try simp only at h
    simp only [Prod.mk.injEq] at h
    obtain ⟨-, hI, hJ⟩ := h
    exact (congrFun (congrFun hJ aq) kq).symm.trans (Eq.trans (fjX10_go hq2.symm aq kq haq) rfl)
  · simp only [if_neg hq1] at h
    obtain ⟨⟨r8, I9, J10⟩, hq3⟩ : ∃ q, q = fX10_bad 1 (I, J) := ⟨_, rfl⟩
    rw [← hq3] at h; try simp only at h
    simp only [Prod.mk.injEq] at h
    obtain ⟨-, hI, hJ⟩ := h
    exact (congrFun (congrFun hJ aq) kq).symm.trans (Eq.trans (fjX10_bad hq3.symm aq kq trivial) rfl)
theorem okX10_readEnd {I : Mi} {J : Mj} {r0 : Bool} {I0 : Mi} {J0 : Mj} (h : fX10_readEnd  (I, J) = (r0, I0, J0)) (hl : LX I) : LX I0 := by
  unfold fX10_readEnd at h
  try simp only at h
  have hb0 := hl
  unfold LX at hb0
  by_cases hq1 : gi I 57 7 = 4 ∧ gi I 57 9 = 59
  · simp only [if_pos hq1] at h
    obtain ⟨⟨r2, I3, J4⟩, hq2⟩ : ∃ q, q = fX10_go (I, J) := ⟨_, rfl⟩
    rw [← hq2] at h; try simp only at h
    have hl2 : LX I3 := okX10_go hq2.symm hl; have hbhl2 := hl2; unfold LX at hbhl2
    simp only [Prod.mk.injEq] at h
    obtain ⟨-, hI, hJ⟩ := h
    rw [← hI]
    exact hl2
  · simp only [if_neg hq1] at h
    obtain ⟨⟨r8, I9, J10⟩, hq3⟩ : ∃ q, q = fX10_bad 1 (I, J) := ⟨_, rfl⟩
    rw [← hq3] at h; try simp only at h
    have hl3 : LX I9 := okX10_bad hq3.symm hl; have hbhl3 := hl3; unfold LX at hbhl3
    simp only [Prod.mk.injEq] at h
    obtain ⟨-, hI, hJ⟩ := h
    rw [← hI]
    exact hl3
set_option maxHeartbeats 4000000 in
set_option maxRecDepth 100000 in
theorem qX10_readEnd {G : Gx} {σ : State} (hC : Cz G σ) {sh : Sh} {I : Mi} {J : Mj}  (hS : St sh) (hl : LX I) : Ce G σ 3 yX10_readEnd cX10_readEnd 1 (some .boolean) [.ref (G.2.2 + 57)] (sh, I, J) 0 0 (some (.int (iv (b2 ((fX10_readEnd (I, J)).1 = true))))) (sh, (fX10_readEnd (I, J)).2.1, (fX10_readEnd (I, J)).2.2) := by
  refine Ct.of hC (by decide +kernel) (Nat.le_of_ble_eq_true rfl) ?_
  intro p l e R s m args below meth c C
  show Jz G σ p l e R s m args below meth c 1 0 0 (Qx (some (.int (iv (b2 ((fX10_readEnd (I, J)).1 = true))))) (sh, (fX10_readEnd (I, J)).2.1, (fX10_readEnd (I, J)).2.2)) (sh, I, J) 0 0 0 [(0, .ref (G.2.2 + 57))] []
  refine z_aload_n C dX10_readEnd_0 0 rfl ?_
  refine z_bipush C dX10_readEnd_1 (by decide) ?_
  refine z_cVi (st := []) C dX10_readEnd_3 mX10_164 (kd_57 hS) (qX10_isSign hC 59 hS (by omega)) rfl rfl (Nat.le_of_ble_eq_true rfl) (by decide) ?_
  refine z_if_ne_b 15 C dX10_readEnd_6 (by decide) (fun h1 => ?_) (fun h1 => ?_)
  ·
    refine z_aload_n C dX10_readEnd_15 0 rfl ?_
    refine z_cVvF (st := []) (F := fX10_go (I, J)) C dX10_readEnd_16 mX10_161 (kd_57 hS) (qX10_go hC  hS hl) rfl rfl (Nat.le_of_ble_eq_true rfl) (by decide) (fun r2 I3 J4 hT5 => ?_)
    have hl6 : LX I3 := okX10_go hT5 hl; have hbhl6 := hl6; unfold LX at hbhl6
    refine z_iconst C dX10_readEnd_19 ?_
    have hf7 : fX10_readEnd (I, J) = (true, I3, J4) := (by simp only [fX10_readEnd, if_pos h1, hT5])
    exact z_zreturnx C dX10_readEnd_20 rfl (by rw [hf7]; rfl) (by rw [hf7])
  ·
    refine z_aload_n C dX10_readEnd_9 0 rfl ?_
    refine z_iconst C dX10_readEnd_10 ?_
    refine z_cVibF (st := []) (F := fX10_bad 1 (I, J)) C dX10_readEnd_11 mX10_151 (kd_57 hS) (qX10_bad hC 1 hS (by omega)) rfl rfl (Nat.le_of_ble_eq_true rfl) (by decide) (fun r8 I9 J10 hT11 => ?_)
    have hl12 : LX I9 := okX10_bad hT11 hl; have hbhl12 := hl12; unfold LX at hbhl12
    have hf13 : fX10_readEnd (I, J) = (decide (r8 = true), I9, J10) := (by simp only [fX10_readEnd, if_neg h1, hT11])
    exact z_zreturnx C dX10_readEnd_14 (b2_nar _) (by rw [hf13]; simp [b2]) (by rw [hf13])

