theorem iv_bv (a : Int) : (iv a).toBitVec = BitVec.ofInt 32 a := rfl
theorem jv_bv (a : Int) : (jv a).toBitVec = BitVec.ofInt 64 a := rfl
theorem bv_n (a : Int) : (BitVec.ofInt 32 a).toNat = (a % 4294967296).toNat := by rw [BitVec.toNat_ofInt]; rfl
theorem bv_m (a : Int) : (BitVec.ofInt 64 a).toNat = (a % 18446744073709551616).toNat := by rw [BitVec.toNat_ofInt]; rfl
theorem iv_ext {x : Int32} {a : Int} (h : x.toBitVec.toNat = (a % 4294967296).toNat) : x = iv a := Int32.toBitVec_inj.mp (BitVec.eq_of_toNat_eq (by rw [iv_bv, bv_n]; exact h))
theorem jv_ext {x : Int64} {a : Int} (h : x.toBitVec.toNat = (a % 18446744073709551616).toNat) : x = jv a := Int64.toBitVec_inj.mp (BitVec.eq_of_toNat_eq (by rw [jv_bv, bv_m]; exact h))
theorem iv_and {a b : Int} (ha : 0 ≤ a ∧ a < 4294967296) (hb : 0 ≤ b ∧ b < 4294967296) : iv a &&& iv b = iv ((a.toNat &&& b.toNat : Nat) : Int) := by
  apply iv_ext
  rw [Int32.toBitVec_and, BitVec.toNat_and, iv_bv, iv_bv, bv_n, bv_n]
  have h1 : (a % 4294967296).toNat = a.toNat := by omega
  have h2 : (b % 4294967296).toNat = b.toNat := by omega
  rw [h1, h2]
  have h3 : a.toNat &&& b.toNat ≤ a.toNat := Nat.and_le_left
  omega
theorem iv_or {a b : Int} (ha : 0 ≤ a ∧ a < 2147483648) (hb : 0 ≤ b ∧ b < 2147483648) : iv a ||| iv b = iv ((a.toNat ||| b.toNat : Nat) : Int) := by
  apply iv_ext
  rw [Int32.toBitVec_or, BitVec.toNat_or, iv_bv, iv_bv, bv_n, bv_n]
  have h1 : (a % 4294967296).toNat = a.toNat := by omega
  have h2 : (b % 4294967296).toNat = b.toNat := by omega
  rw [h1, h2]
  have h3 : a.toNat ||| b.toNat < 2 ^ 31 := Nat.or_lt_two_pow (by omega) (by omega)
  omega
theorem iv_mask (a : Int) {m k : Nat} (hm : m + 1 = 2 ^ k) (hk : k < 32) : iv a &&& iv (m : Int) = iv (a % (m + 1 : Nat)) := by
  apply iv_ext
  have hp : 2 ^ k ≤ 2 ^ 31 := Nat.pow_le_pow_right (by decide) (by omega)
  rw [Int32.toBitVec_and, BitVec.toNat_and, iv_bv, iv_bv, bv_n, bv_n]
  have h2 : ((m : Int) % 4294967296).toNat = 2 ^ k - 1 := by omega
  rw [h2, Nat.and_two_pow_sub_one_eq_mod, hm]
  have h3 : ((4294967296 : Int)) = ((2 ^ k : Nat) : Int) * ((2 ^ (32 - k) : Nat) : Int) := by
    rw [← Int.natCast_mul, ← Nat.pow_add, show k + (32 - k) = 32 by omega]; rfl
  have h4 : a % ((2 ^ k : Nat) : Int) = (a % 4294967296) % ((2 ^ k : Nat) : Int) := (Int.emod_emod_of_dvd a ⟨_, h3⟩).symm
  have hpos : (0 : Int) < ((2 ^ k : Nat) : Int) := by have : 0 < 2 ^ k := Nat.pos_of_ne_zero (by simp); omega
  have h5 : 0 ≤ a % 4294967296 := by omega
  rw [h4]
  generalize a % 4294967296 = q at h5
  obtain ⟨n, rfl⟩ := Int.eq_ofNat_of_zero_le h5
  have h6 : ((n : Int) % ((2 ^ k : Nat) : Int)) = ((n % 2 ^ k : Nat) : Int) := by simp
  rw [h6]
  have h7 : n % 2 ^ k < 2 ^ k := Nat.mod_lt _ (Nat.pos_of_ne_zero (by simp))
  simp only [Int.toNat_natCast]
  generalize n % 2 ^ k = r at h7 ⊢
  generalize 2 ^ k = P at h7 hp
  omega
theorem iv_ushr (a : Int) {k : Nat} (hk : k < 32) : ((iv a).toUInt32 >>> ((iv (k : Int)).toUInt32 &&& Int32.toUInt32 31)).toInt32 = iv (a % 4294967296 / (2 ^ k : Nat)) := by
  apply iv_ext
  have h1 : ((iv (k : Int)).toUInt32 &&& Int32.toUInt32 31) = UInt32.ofNat k := by
    have : ∀ k, k < 32 → ((iv ((k : Nat) : Int)).toUInt32 &&& Int32.toUInt32 31) = UInt32.ofNat k := by decide +kernel
    exact this k hk
  rw [h1]
  have h2 : ((iv a).toUInt32 >>> UInt32.ofNat k).toInt32.toBitVec.toNat = (iv a).toBitVec.toNat / 2 ^ k := by
    show ((iv a).toUInt32 >>> UInt32.ofNat k).toNat = _
    rw [UInt32.toNat_shiftRight, UInt32.toNat_ofNat', Nat.shiftRight_eq_div_pow]
    rw [show k % 2 ^ 32 % 32 = k by omega]
    rfl
  rw [h2, iv_bv, bv_n]
  have h5 : 0 ≤ a % 4294967296 := by omega
  have h6 : a % 4294967296 < 4294967296 := by omega
  generalize a % 4294967296 = q at h5 h6
  obtain ⟨n, rfl⟩ := Int.eq_ofNat_of_zero_le h5
  have h7 : ((n : Int) / ((2 ^ k : Nat) : Int)) = ((n / 2 ^ k : Nat) : Int) := by simp
  rw [h7]
  have h8 : n / 2 ^ k ≤ n := Nat.div_le_self _ _
  simp only [Int.toNat_natCast]
  clear h2 h7
  generalize n / 2 ^ k = r at h8 ⊢
  omega
theorem i2l_iv {a : Int} (h : -2147483648 ≤ a ∧ a < 2147483648) : (iv a).toInt64 = jv a := by
  have h1 : (iv a).toInt64.toInt = a := by rw [Int32.toInt_toInt64, iv_toInt h]
  exact (jv_self _).symm.trans (congrArg jv h1)
theorem lcmp_jv {a b : Int} (ha : -9223372036854775808 ≤ a ∧ a < 9223372036854775808) (hb : -9223372036854775808 ≤ b ∧ b < 9223372036854775808) : lg_cmp (jv a) (jv b) = iv (if a = b then 0 else if b < a then 1 else -1) := by
  unfold lg_cmp
  have e1 : jv b < jv a ↔ b < a := by rw [Int64.lt_iff_toInt_lt, jv_toInt ha, jv_toInt hb]
  have e2 : jv a = jv b ↔ a = b := by rw [← Int64.toInt_inj, jv_toInt ha, jv_toInt hb]
  by_cases h : a = b
  · rw [if_neg (by rw [gt_iff_lt, e1]; omega), if_pos (e2.mpr h), if_pos h]; rfl
  · by_cases h2 : b < a
    · rw [if_pos (by rw [gt_iff_lt, e1]; exact h2), if_neg h, if_pos h2]; rfl
    · rw [if_neg (by rw [gt_iff_lt, e1]; exact h2), if_neg (fun q => h (e2.mp q)), if_neg h, if_neg h2]; rfl
theorem iv_div {a b : Int} (ha : 0 ≤ a ∧ a < 2147483648) (hb : 0 < b ∧ b < 2147483648) : iv a / iv b = iv (a / b) := by
  have h1 : 0 ≤ a / b := Int.ediv_nonneg ha.1 (by omega)
  have h2 : a / b ≤ a := Int.ediv_le_self b ha.1
  apply Int32.toInt_inj.mp
  rw [Int32.toInt_div, iv_toInt (by omega), iv_toInt (by omega), iv_toInt (by omega), Int.tdiv_eq_ediv_of_nonneg ha.1]
  exact Int.bmod_eq_of_le (by omega) (by omega)
theorem iv_rem {a b : Int} (ha : 0 ≤ a ∧ a < 2147483648) (hb : 0 < b ∧ b < 2147483648) : iv a - iv a / iv b * iv b = iv (a % b) := by
  rw [iv_div ha hb, iv_mul, iv_sub]
  congr 1
  have := Int.emod_add_ediv_mul a b
  omega
theorem iv_ne0 {b : Int} (h : -2147483648 ≤ b ∧ b < 2147483648) (h0 : ¬ b = 0) : ¬ iv b = 0 := fun q => h0 ((iv_eq (b := 0) h (by decide)).mp q)
theorem gi_fr {I I1 : Mi} {a : Nat} (h : I1 a = I a) (k : Nat) : gi I1 a k = gi I a k := by unfold gi; rw [h]
theorem gj_fr {J J1 : Mj} {a : Nat} (h : J1 a = J a) (k : Nat) : gj J1 a k = gj J a k := by unfold gj; rw [h]
theorem wi_ne (I : Mi) {a b : Nat} (k : Nat) (v : Int) (h : b ≠ a) : wi I a k v b = I b := up2_ne _ _ _ h
theorem wj_ne (J : Mj) {a b : Nat} (k : Nat) (v : Int) (h : b ≠ a) : wj J a k v b = J b := up2_ne _ _ _ h
theorem wi_self (I : Mi) (a k : Nat) : wi I a k (gi I a k) = I := by
  funext b j; unfold wi; rw [up2_ap, iv_gi]; split
  · rename_i h; rw [h.1, h.2]
  · rfl
theorem wj_self (J : Mj) (a k : Nat) : wj J a k (gj J a k) = J := by
  funext b j; unfold wj; rw [up2_ap, jv_gj]; split
  · rename_i h; rw [h.1, h.2]
  · rfl
theorem wi_wi (I : Mi) (a k : Nat) (x y : Int) : wi (wi I a k x) a k y = wi I a k y := by
  funext b j; unfold wi; rw [up2_ap, up2_ap, up2_ap]; split <;> simp_all
/-- a loop by its test and its step -/
def wh {α : Type} (c : α → Bool) (f : α → α) : Nat → α → α
  | 0, x => x
  | n + 1, x => if c x then wh c f n (f x) else x
theorem wh_t {α : Type} {c : α → Bool} {f : α → α} {n : Nat} {x : α} (h : c x = true) : wh c f (n + 1) x = wh c f n (f x) := by simp [wh, h]
theorem wh_f {α : Type} {c : α → Bool} {f : α → α} {n : Nat} {x : α} (h : c x = false) : wh c f (n + 1) x = x := by simp [wh, h]
def w32 (x : Int) : Int := (iv x).toInt
def w64 (x : Int) : Int := (jv x).toInt
theorem iv_w32 (x : Int) : iv (w32 x) = iv x := iv_self _
theorem jv_w64 (x : Int) : jv (w64 x) = jv x := jv_self _
theorem w32_eq {x : Int} (h : -2147483648 ≤ x ∧ x < 2147483648) : w32 x = x := iv_toInt h
theorem w64_eq {x : Int} (h : -9223372036854775808 ≤ x ∧ x < 9223372036854775808) : w64 x = x := jv_toInt h
theorem w32_rng (x : Int) : -2147483648 ≤ w32 x ∧ w32 x < 2147483648 := iv_rng _
theorem w64_rng (x : Int) : -9223372036854775808 ≤ w64 x ∧ w64 x < 9223372036854775808 := jv_rng _
theorem memEq {sh : Sh} {I I' : Mi} {J J' : Mj} (h1 : I = I') (h2 : J = J') : ((sh, I, J) : Mm) = (sh, I', J') := by rw [h1, h2]
theorem lookup_none : True := trivial
theorem gi_wi_na (I : Mi) {a b : Nat} (k j : Nat) (x : Int) (h : b ≠ a) : gi (wi I a k x) b j = gi I b j := gi_wi_ne I x (fun q => h q.1)
theorem gi_wi_nk (I : Mi) (a : Nat) {k j : Nat} (x : Int) (h : j ≠ k) : gi (wi I a k x) a j = gi I a j := gi_wi_ne I x (fun q => h q.2)
theorem gj_wj_na (J : Mj) {a b : Nat} (k j : Nat) (x : Int) (h : b ≠ a) : gj (wj J a k x) b j = gj J b j := gj_wj_ne J x (fun q => h q.1)
theorem gj_wj_nk (J : Mj) (a : Nat) {k j : Nat} (x : Int) (h : j ≠ k) : gj (wj J a k x) a j = gj J a j := gj_wj_ne J x (fun q => h q.2)
theorem gi_fk {I I1 : Mi} {a k : Nat} (h : I1 a k = I a k) : gi I1 a k = gi I a k := by unfold gi; rw [h]
theorem gj_fk {J J1 : Mj} {a k : Nat} (h : J1 a k = J a k) : gj J1 a k = gj J a k := by unfold gj; rw [h]
theorem wi_nc (I : Mi) {a b k j : Nat} (v : Int) (h : ¬ (b = a ∧ j = k)) : wi I a k v b j = I b j := by unfold wi; rw [up2_ap, if_neg h]
theorem wj_nc (J : Mj) {a b k j : Nat} (v : Int) (h : ¬ (b = a ∧ j = k)) : wj J a k v b j = J b j := by unfold wj; rw [up2_ap, if_neg h]
def cmpI (a b : Int) : Int := if a = b then 0 else if b < a then 1 else -1
theorem cmp_cases (a b : Int) : (a = b ∧ cmpI a b = 0) ∨ (b < a ∧ cmpI a b = 1) ∨ (a < b ∧ cmpI a b = -1) := by
  unfold cmpI
  by_cases h : a = b
  · simp [h]
  · by_cases h2 : b < a
    · simp [h, h2]
    · simp [h, h2]; omega
theorem cmp_eq {a b : Int} : cmpI a b = 0 ↔ a = b := by have := cmp_cases a b; omega
theorem cmp_gt {a b : Int} : 0 < cmpI a b ↔ b < a := by have := cmp_cases a b; omega
theorem cmp_lt {a b : Int} : cmpI a b < 0 ↔ a < b := by have := cmp_cases a b; omega
theorem cmp_rng (a b : Int) : -2147483648 ≤ cmpI a b ∧ cmpI a b < 2147483648 := by have := cmp_cases a b; omega
section ROW5
variable {G : Gx} {σ : State} {p : Program} {l : Launch} {e : Env} {R : Room} {s : State} {m : MethodId} {args : Array Value} {below : List Frame} {meth : Method} {c : Code} {y : MethodName} {cc : ByteArray} {nL : Nat} {ret : Option FieldType} {d mc ms : Nat} {Q : Option Value → Mm → Prop} {M : Mm} {k n pc : Nat} {lv : List (Nat × Value)} {st : List Value}
theorem z_if_eq_c {a b : Int} {off : Int} (tgt : Nat) (C : Bx G σ p R s m args meth c y cc nL ret d mc ms) (hd : decode cc pc = .ok (.ifCond .eq off, 3)) (ht : (pc : Int) + off = (tgt : Int)) (kt : a = b → Jz G σ p l e R s m args below meth c nL mc ms Q M k n tgt lv st) (kf : ¬ a = b → Jz G σ p l e R s m args below meth c nL mc ms Q M k n (pc + 3) lv st) : Jz G σ p l e R s m args below meth c nL mc ms Q M k n pc lv (.int (iv (cmpI a b)) :: st) := z_if_eq tgt C hd ht (cmp_rng a b) (fun h => kt (cmp_eq.mp h)) (fun h => kf (fun q => h (cmp_eq.mpr q)))
theorem z_if_ne_c {a b : Int} {off : Int} (tgt : Nat) (C : Bx G σ p R s m args meth c y cc nL ret d mc ms) (hd : decode cc pc = .ok (.ifCond .ne off, 3)) (ht : (pc : Int) + off = (tgt : Int)) (kt : ¬ a = b → Jz G σ p l e R s m args below meth c nL mc ms Q M k n tgt lv st) (kf : a = b → Jz G σ p l e R s m args below meth c nL mc ms Q M k n (pc + 3) lv st) : Jz G σ p l e R s m args below meth c nL mc ms Q M k n pc lv (.int (iv (cmpI a b)) :: st) := z_if_ne tgt C hd ht (cmp_rng a b) (fun h => kt (fun q => h (cmp_eq.mpr q))) (fun h => kf (cmp_eq.mp h))
theorem z_if_gt_c {a b : Int} {off : Int} (tgt : Nat) (C : Bx G σ p R s m args meth c y cc nL ret d mc ms) (hd : decode cc pc = .ok (.ifCond .gt off, 3)) (ht : (pc : Int) + off = (tgt : Int)) (kt : b < a → Jz G σ p l e R s m args below meth c nL mc ms Q M k n tgt lv st) (kf : ¬ b < a → Jz G σ p l e R s m args below meth c nL mc ms Q M k n (pc + 3) lv st) : Jz G σ p l e R s m args below meth c nL mc ms Q M k n pc lv (.int (iv (cmpI a b)) :: st) := z_if_gt tgt C hd ht (cmp_rng a b) (fun h => kt (cmp_gt.mp h)) (fun h => kf (fun q => h (cmp_gt.mpr q)))
theorem z_if_le_c {a b : Int} {off : Int} (tgt : Nat) (C : Bx G σ p R s m args meth c y cc nL ret d mc ms) (hd : decode cc pc = .ok (.ifCond .le off, 3)) (ht : (pc : Int) + off = (tgt : Int)) (kt : a ≤ b → Jz G σ p l e R s m args below meth c nL mc ms Q M k n tgt lv st) (kf : ¬ a ≤ b → Jz G σ p l e R s m args below meth c nL mc ms Q M k n (pc + 3) lv st) : Jz G σ p l e R s m args below meth c nL mc ms Q M k n pc lv (.int (iv (cmpI a b)) :: st) := z_if_le tgt C hd ht (cmp_rng a b) (fun h => kt (by have := cmp_cases a b; omega)) (fun h => kf (by have := cmp_cases a b; omega))
theorem z_if_lt_c {a b : Int} {off : Int} (tgt : Nat) (C : Bx G σ p R s m args meth c y cc nL ret d mc ms) (hd : decode cc pc = .ok (.ifCond .lt off, 3)) (ht : (pc : Int) + off = (tgt : Int)) (kt : a < b → Jz G σ p l e R s m args below meth c nL mc ms Q M k n tgt lv st) (kf : ¬ a < b → Jz G σ p l e R s m args below meth c nL mc ms Q M k n (pc + 3) lv st) : Jz G σ p l e R s m args below meth c nL mc ms Q M k n pc lv (.int (iv (cmpI a b)) :: st) := z_if_lt tgt C hd ht (cmp_rng a b) (fun h => kt (cmp_lt.mp h)) (fun h => kf (fun q => h (cmp_lt.mpr q)))
theorem z_if_ge_c {a b : Int} {off : Int} (tgt : Nat) (C : Bx G σ p R s m args meth c y cc nL ret d mc ms) (hd : decode cc pc = .ok (.ifCond .ge off, 3)) (ht : (pc : Int) + off = (tgt : Int)) (kt : b ≤ a → Jz G σ p l e R s m args below meth c nL mc ms Q M k n tgt lv st) (kf : ¬ b ≤ a → Jz G σ p l e R s m args below meth c nL mc ms Q M k n (pc + 3) lv st) : Jz G σ p l e R s m args below meth c nL mc ms Q M k n pc lv (.int (iv (cmpI a b)) :: st) := z_if_ge tgt C hd ht (cmp_rng a b) (fun h => kt (by have := cmp_cases a b; omega)) (fun h => kf (by have := cmp_cases a b; omega))
end ROW5
