abbrev Sh : Type := Nat × (Nat → Nat) × (Nat → Nat) × (Nat → Nat → Option Nat)
abbrev Mi : Type := Nat → Nat → Int32
abbrev Mj : Type := Nat → Nat → Int64
def iv (a : Int) : Int32 := Int32.ofInt a
def jv (a : Int) : Int64 := Int64.ofInt a
theorem iv_add (a b : Int) : iv a + iv b = iv (a + b) := (Int32.ofInt_add a b).symm
theorem iv_sub (a b : Int) : iv a - iv b = iv (a - b) := (Int32.ofInt_sub a b).symm
theorem iv_mul (a b : Int) : iv a * iv b = iv (a * b) := (Int32.ofInt_mul a b).symm
theorem jv_add (a b : Int) : jv a + jv b = jv (a + b) := (Int64.ofInt_add a b).symm
theorem jv_sub (a b : Int) : jv a - jv b = jv (a - b) := (Int64.ofInt_sub a b).symm
theorem jv_mul (a b : Int) : jv a * jv b = jv (a * b) := (Int64.ofInt_mul a b).symm
theorem iv_toInt {a : Int} (h : -2147483648 ≤ a ∧ a < 2147483648) : (iv a).toInt = a := Int32.toInt_ofInt_of_le (by omega) (by omega)
theorem jv_toInt {a : Int} (h : -9223372036854775808 ≤ a ∧ a < 9223372036854775808) : (jv a).toInt = a := Int64.toInt_ofInt_of_le (by omega) (by omega)
theorem iv_lt {a b : Int} (ha : -2147483648 ≤ a ∧ a < 2147483648) (hb : -2147483648 ≤ b ∧ b < 2147483648) : iv a < iv b ↔ a < b := by rw [Int32.lt_iff_toInt_lt, iv_toInt ha, iv_toInt hb]
theorem iv_le {a b : Int} (ha : -2147483648 ≤ a ∧ a < 2147483648) (hb : -2147483648 ≤ b ∧ b < 2147483648) : iv a ≤ iv b ↔ a ≤ b := by rw [Int32.le_iff_toInt_le, iv_toInt ha, iv_toInt hb]
theorem iv_eq {a b : Int} (ha : -2147483648 ≤ a ∧ a < 2147483648) (hb : -2147483648 ≤ b ∧ b < 2147483648) : iv a = iv b ↔ a = b := by rw [← Int32.toInt_inj, iv_toInt ha, iv_toInt hb]
theorem iv_self (x : Int32) : iv x.toInt = x := Int32.ofInt_toInt x
theorem iv_rng (x : Int32) : -2147483648 ≤ x.toInt ∧ x.toInt < 2147483648 := ⟨Int32.le_toInt x, Int32.toInt_lt x⟩
theorem iv_idx {a : Int} {q : Nat} (h : a = (q : Int)) (hq : q < 2147483648) : (iv a).toNatClampNeg = q ∧ ¬ iv a < 0 := by
  have h1 : (iv a).toInt = a := iv_toInt (by omega)
  refine ⟨by rw [Int32.toNatClampNeg, h1, h]; rfl, ?_⟩
  rw [Int32.lt_iff_toInt_lt, h1]; simp; omega
abbrev Mm : Type := Sh × Mi × Mj
def rz (z : Nat) (r : Option Nat) : Option Nat := r.map (fun k => z + k)
abbrev rmz (d mc ms : Nat) : Room := { frames := d, cells := mc, slots := ms, locals := 64 * d }
def up2 {α : Type} (f : Nat → Nat → α) (a k : Nat) (v : α) : Nat → Nat → α := fun b => if b = a then fun j => if j = k then v else f a j else f b
theorem up2_ne {α : Type} (f : Nat → Nat → α) {a b : Nat} (k : Nat) (v : α) (h : b ≠ a) : up2 f a k v b = f b := by simp [up2, h]
theorem up2_eq {α : Type} (f : Nat → Nat → α) (a k j : Nat) (v : α) : up2 f a k v a j = if j = k then v else f a j := by simp [up2]
theorem up2_ap {α : Type} (f : Nat → Nat → α) (a k b j : Nat) (v : α) : up2 f a k v b j = if b = a ∧ j = k then v else f b j := by
  unfold up2; by_cases h : b = a
  · subst h; by_cases h2 : j = k <;> simp [h2]
  · simp [h]
/-- numbers out of a world and into it -/
def gi (I : Mi) (a k : Nat) : Int := (I a k).toInt
def gj (J : Mj) (a k : Nat) : Int := (J a k).toInt
def wi (I : Mi) (a k : Nat) (x : Int) : Mi := up2 I a k (iv x)
def wj (J : Mj) (a k : Nat) (x : Int) : Mj := up2 J a k (jv x)
theorem jv_self (x : Int64) : jv x.toInt = x := Int64.ofInt_toInt x
theorem jv_rng (x : Int64) : -9223372036854775808 ≤ x.toInt ∧ x.toInt < 9223372036854775808 := ⟨Int64.le_toInt x, Int64.toInt_lt x⟩
theorem gi_rng (I : Mi) (a k : Nat) : -2147483648 ≤ gi I a k ∧ gi I a k < 2147483648 := iv_rng _
theorem gj_rng (J : Mj) (a k : Nat) : -9223372036854775808 ≤ gj J a k ∧ gj J a k < 9223372036854775808 := jv_rng _
theorem iv_gi (I : Mi) (a k : Nat) : iv (gi I a k) = I a k := iv_self _
theorem jv_gj (J : Mj) (a k : Nat) : jv (gj J a k) = J a k := jv_self _
theorem gi_wi (I : Mi) (a k b j : Nat) (x : Int) (h : -2147483648 ≤ x ∧ x < 2147483648) : gi (wi I a k x) b j = if b = a ∧ j = k then x else gi I b j := by
  unfold gi wi; rw [up2_ap]; split
  · exact iv_toInt h
  · rfl
theorem gi_wi_eq (I : Mi) (a k : Nat) {x : Int} (h : -2147483648 ≤ x ∧ x < 2147483648) : gi (wi I a k x) a k = x := by rw [gi_wi _ _ _ _ _ _ h]; simp
theorem gi_wi_ne (I : Mi) {a k b j : Nat} (x : Int) (h : ¬ (b = a ∧ j = k)) : gi (wi I a k x) b j = gi I b j := by unfold gi wi; rw [up2_ap, if_neg h]
theorem gj_wj_eq (J : Mj) (a k : Nat) {x : Int} (h : -9223372036854775808 ≤ x ∧ x < 9223372036854775808) : gj (wj J a k x) a k = x := by unfold gj wj; rw [up2_ap]; simp; exact jv_toInt h
theorem gj_wj_ne (J : Mj) {a k b j : Nat} (x : Int) (h : ¬ (b = a ∧ j = k)) : gj (wj J a k x) b j = gj J b j := by unfold gj wj; rw [up2_ap, if_neg h]
/-- cell id is there, of kind c -/
def Kd (M : Mm) (id c : Nat) : Prop := id < M.1.1 ∧ M.1.2.1 id = c
theorem iv_bv (a : Int) : (iv a).toBitVec = BitVec.ofInt 32 a := rfl
theorem jv_bv (a : Int) : (jv a).toBitVec = BitVec.ofInt 64 a := rfl
theorem bv_n (a : Int) : (BitVec.ofInt 32 a).toNat = (a % 4294967296).toNat := by rw [BitVec.toNat_ofInt]; rfl
theorem bv_m (a : Int) : (BitVec.ofInt 64 a).toNat = (a % 18446744073709551616).toNat := by rw [BitVec.toNat_ofInt]; rfl
theorem iv_ext {x : Int32} {a : Int} (h : x.toBitVec.toNat = (a % 4294967296).toNat) : x = iv a := Int32.toBitVec_inj.mp (BitVec.eq_of_toNat_eq (by rw [iv_bv, bv_n]; exact h))
theorem jv_ext {x : Int64} {a : Int} (h : x.toBitVec.toNat = (a % 18446744073709551616).toNat) : x = jv a := Int64.toBitVec_inj.mp (BitVec.eq_of_toNat_eq (by rw [jv_bv, bv_m]; exact h))
theorem iv_and {a b : Int} (ha : 0 ≤ a ∧ a < 4294967296) (hb : 0 ≤ b ∧ b < 4294967296) : iv a &&& iv b = iv ((a.toNat &&& b.toNat : Nat) : Int) := by
  apply iv_ext
  rw [Int32.toBitVec_and, BitVec.toNat_and, iv_bv, iv_bv, bv_n, bv_n]
  have h1 : (a % 4294967296).toNat = a.toNat := by omega
  have h2 : (b % 4294967296).toNat = b.toNat := by omega
  rw [h1, h2]
  have h3 : a.toNat &&& b.toNat ≤ a.toNat := Nat.and_le_left
  omega
theorem iv_or {a b : Int} (ha : 0 ≤ a ∧ a < 2147483648) (hb : 0 ≤ b ∧ b < 2147483648) : iv a ||| iv b = iv ((a.toNat ||| b.toNat : Nat) : Int) := by
  apply iv_ext
  rw [Int32.toBitVec_or, BitVec.toNat_or, iv_bv, iv_bv, bv_n, bv_n]
  have h1 : (a % 4294967296).toNat = a.toNat := by omega
  have h2 : (b % 4294967296).toNat = b.toNat := by omega
  rw [h1, h2]
  have h3 : a.toNat ||| b.toNat < 2 ^ 31 := Nat.or_lt_two_pow (by omega) (by omega)
  omega
theorem iv_mask (a : Int) {m k : Nat} (hm : m + 1 = 2 ^ k) (hk : k < 32) : iv a &&& iv (m : Int) = iv (a % (m + 1 : Nat)) := by
  apply iv_ext
  have hp : 2 ^ k ≤ 2 ^ 31 := Nat.pow_le_pow_right (by decide) (by omega)
  rw [Int32.toBitVec_and, BitVec.toNat_and, iv_bv, iv_bv, bv_n, bv_n]
  have h2 : ((m : Int) % 4294967296).toNat = 2 ^ k - 1 := by omega
  rw [h2, Nat.and_two_pow_sub_one_eq_mod, hm]
  have h3 : ((4294967296 : Int)) = ((2 ^ k : Nat) : Int) * ((2 ^ (32 - k) : Nat) : Int) := by
    rw [← Int.natCast_mul, ← Nat.pow_add, show k + (32 - k) = 32 by omega]; rfl
  have h4 : a % ((2 ^ k : Nat) : Int) = (a % 4294967296) % ((2 ^ k : Nat) : Int) := (Int.emod_emod_of_dvd a ⟨_, h3⟩).symm
  have hpos : (0 : Int) < ((2 ^ k : Nat) : Int) := by have : 0 < 2 ^ k := Nat.pos_of_ne_zero (by simp); omega
  have h5 : 0 ≤ a % 4294967296 := by omega
  rw [h4]
  generalize a % 4294967296 = q at h5
  obtain ⟨n, rfl⟩ := Int.eq_ofNat_of_zero_le h5
  have h6 : ((n : Int) % ((2 ^ k : Nat) : Int)) = ((n % 2 ^ k : Nat) : Int) := by simp
  rw [h6]
  have h7 : n % 2 ^ k < 2 ^ k := Nat.mod_lt _ (Nat.pos_of_ne_zero (by simp))
  simp only [Int.toNat_natCast]
  generalize n % 2 ^ k = r at h7 ⊢
  generalize 2 ^ k = P at h7 hp
  omega
theorem iv_ushr (a : Int) {k : Nat} (hk : k < 32) : ((iv a).toUInt32 >>> ((iv (k : Int)).toUInt32 &&& Int32.toUInt32 31)).toInt32 = iv (a % 4294967296 / (2 ^ k : Nat)) := by
  apply iv_ext
  have h1 : ((iv (k : Int)).toUInt32 &&& Int32.toUInt32 31) = UInt32.ofNat k := by
    have : ∀ k, k < 32 → ((iv ((k : Nat) : Int)).toUInt32 &&& Int32.toUInt32 31) = UInt32.ofNat k := by decide +kernel
    exact this k hk
  rw [h1]
  have h2 : ((iv a).toUInt32 >>> UInt32.ofNat k).toInt32.toBitVec.toNat = (iv a).toBitVec.toNat / 2 ^ k := by
    show ((iv a).toUInt32 >>> UInt32.ofNat k).toNat = _
    rw [UInt32.toNat_shiftRight, UInt32.toNat_ofNat', Nat.shiftRight_eq_div_pow]
    rw [show k % 2 ^ 32 % 32 = k by omega]
    rfl
  rw [h2, iv_bv, bv_n]
  have h5 : 0 ≤ a % 4294967296 := by omega
  have h6 : a % 4294967296 < 4294967296 := by omega
  generalize a % 4294967296 = q at h5 h6
  obtain ⟨n, rfl⟩ := Int.eq_ofNat_of_zero_le h5
  have h7 : ((n : Int) / ((2 ^ k : Nat) : Int)) = ((n / 2 ^ k : Nat) : Int) := by simp
  rw [h7]
  have h8 : n / 2 ^ k ≤ n := Nat.div_le_self _ _
  simp only [Int.toNat_natCast]
  clear h2 h7
  generalize n / 2 ^ k = r at h8 ⊢
  omega
theorem i2l_iv {a : Int} (h : -2147483648 ≤ a ∧ a < 2147483648) : (iv a).toInt64 = jv a := by
  have h1 : (iv a).toInt64.toInt = a := by rw [Int32.toInt_toInt64, iv_toInt h]
  exact (jv_self _).symm.trans (congrArg jv h1)
theorem iv_div {a b : Int} (ha : 0 ≤ a ∧ a < 2147483648) (hb : 0 < b ∧ b < 2147483648) : iv a / iv b = iv (a / b) := by
  have h1 : 0 ≤ a / b := Int.ediv_nonneg ha.1 (by omega)
  have h2 : a / b ≤ a := Int.ediv_le_self b ha.1
  apply Int32.toInt_inj.mp
  rw [Int32.toInt_div, iv_toInt (by omega), iv_toInt (by omega), iv_toInt (by omega), Int.tdiv_eq_ediv_of_nonneg ha.1]
  exact Int.bmod_eq_of_le (by omega) (by omega)
theorem iv_rem {a b : Int} (ha : 0 ≤ a ∧ a < 2147483648) (hb : 0 < b ∧ b < 2147483648) : iv a - iv a / iv b * iv b = iv (a % b) := by
  rw [iv_div ha hb, iv_mul, iv_sub]
  congr 1
  have := Int.emod_add_ediv_mul a b
  omega
theorem iv_ne0 {b : Int} (h : -2147483648 ≤ b ∧ b < 2147483648) (h0 : ¬ b = 0) : ¬ iv b = 0 := fun q => h0 ((iv_eq (b := 0) h (by decide)).mp q)
theorem gi_fr {I I1 : Mi} {a : Nat} (h : I1 a = I a) (k : Nat) : gi I1 a k = gi I a k := by unfold gi; rw [h]
theorem gj_fr {J J1 : Mj} {a : Nat} (h : J1 a = J a) (k : Nat) : gj J1 a k = gj J a k := by unfold gj; rw [h]
theorem wi_ne (I : Mi) {a b : Nat} (k : Nat) (v : Int) (h : b ≠ a) : wi I a k v b = I b := up2_ne _ _ _ h
theorem wj_ne (J : Mj) {a b : Nat} (k : Nat) (v : Int) (h : b ≠ a) : wj J a k v b = J b := up2_ne _ _ _ h
theorem wi_self (I : Mi) (a k : Nat) : wi I a k (gi I a k) = I := by
  funext b j; unfold wi; rw [up2_ap, iv_gi]; split
  · rename_i h; rw [h.1, h.2]
  · rfl
theorem wj_self (J : Mj) (a k : Nat) : wj J a k (gj J a k) = J := by
  funext b j; unfold wj; rw [up2_ap, jv_gj]; split
  · rename_i h; rw [h.1, h.2]
  · rfl
theorem wi_wi (I : Mi) (a k : Nat) (x y : Int) : wi (wi I a k x) a k y = wi I a k y := by
  funext b j; unfold wi; rw [up2_ap, up2_ap, up2_ap]; split <;> simp_all
/-- a loop by its test and its step -/
def wh {α : Type} (c : α → Bool) (f : α → α) : Nat → α → α
  | 0, x => x
  | n + 1, x => if c x then wh c f n (f x) else x
theorem wh_t {α : Type} {c : α → Bool} {f : α → α} {n : Nat} {x : α} (h : c x = true) : wh c f (n + 1) x = wh c f n (f x) := by simp [wh, h]
theorem wh_f {α : Type} {c : α → Bool} {f : α → α} {n : Nat} {x : α} (h : c x = false) : wh c f (n + 1) x = x := by simp [wh, h]
def w32 (x : Int) : Int := (iv x).toInt
def w64 (x : Int) : Int := (jv x).toInt
theorem iv_w32 (x : Int) : iv (w32 x) = iv x := iv_self _
theorem jv_w64 (x : Int) : jv (w64 x) = jv x := jv_self _
theorem w32_eq {x : Int} (h : -2147483648 ≤ x ∧ x < 2147483648) : w32 x = x := iv_toInt h
theorem w64_eq {x : Int} (h : -9223372036854775808 ≤ x ∧ x < 9223372036854775808) : w64 x = x := jv_toInt h
theorem w32_rng (x : Int) : -2147483648 ≤ w32 x ∧ w32 x < 2147483648 := iv_rng _
theorem w64_rng (x : Int) : -9223372036854775808 ≤ w64 x ∧ w64 x < 9223372036854775808 := jv_rng _
theorem memEq {sh : Sh} {I I' : Mi} {J J' : Mj} (h1 : I = I') (h2 : J = J') : ((sh, I, J) : Mm) = (sh, I', J') := by rw [h1, h2]
theorem lookup_none : True := trivial
theorem gi_wi_na (I : Mi) {a b : Nat} (k j : Nat) (x : Int) (h : b ≠ a) : gi (wi I a k x) b j = gi I b j := gi_wi_ne I x (fun q => h q.1)
theorem gi_wi_nk (I : Mi) (a : Nat) {k j : Nat} (x : Int) (h : j ≠ k) : gi (wi I a k x) a j = gi I a j := gi_wi_ne I x (fun q => h q.2)
theorem gj_wj_na (J : Mj) {a b : Nat} (k j : Nat) (x : Int) (h : b ≠ a) : gj (wj J a k x) b j = gj J b j := gj_wj_ne J x (fun q => h q.1)
theorem gj_wj_nk (J : Mj) (a : Nat) {k j : Nat} (x : Int) (h : j ≠ k) : gj (wj J a k x) a j = gj J a j := gj_wj_ne J x (fun q => h q.2)
theorem gi_fk {I I1 : Mi} {a k : Nat} (h : I1 a k = I a k) : gi I1 a k = gi I a k := by unfold gi; rw [h]
theorem gj_fk {J J1 : Mj} {a k : Nat} (h : J1 a k = J a k) : gj J1 a k = gj J a k := by unfold gj; rw [h]
theorem wi_nc (I : Mi) {a b k j : Nat} (v : Int) (h : ¬ (b = a ∧ j = k)) : wi I a k v b j = I b j := by unfold wi; rw [up2_ap, if_neg h]
theorem wj_nc (J : Mj) {a b k j : Nat} (v : Int) (h : ¬ (b = a ∧ j = k)) : wj J a k v b j = J b j := by unfold wj; rw [up2_ap, if_neg h]
def cmpI (a b : Int) : Int := if a = b then 0 else if b < a then 1 else -1
theorem cmp_cases (a b : Int) : (a = b ∧ cmpI a b = 0) ∨ (b < a ∧ cmpI a b = 1) ∨ (a < b ∧ cmpI a b = -1) := by
  unfold cmpI
  by_cases h : a = b
  · simp [h]
  · by_cases h2 : b < a
    · simp [h, h2]
    · simp [h, h2]; omega
theorem cmp_eq {a b : Int} : cmpI a b = 0 ↔ a = b := by have := cmp_cases a b; omega
theorem cmp_gt {a b : Int} : 0 < cmpI a b ↔ b < a := by have := cmp_cases a b; omega
theorem cmp_lt {a b : Int} : cmpI a b < 0 ↔ a < b := by have := cmp_cases a b; omega
theorem cmp_rng (a b : Int) : -2147483648 ≤ cmpI a b ∧ cmpI a b < 2147483648 := by have := cmp_cases a b; omega
def cp (I : Mi) (a : Nat) (d : Int) (b : Nat) (s n : Int) : Mi := fun x j => if x = a ∧ d ≤ (j : Int) ∧ (j : Int) < d + n then I b ((j : Int) - d + s).toNat else I x j
theorem cp_fr (I : Mi) (a : Nat) (d : Int) (b : Nat) (s n : Int) (aq kq : Nat) (h : aq ≠ a) : cp I a d b s n aq kq = I aq kq := by unfold cp; rw [if_neg (fun q => h q.1)]
/-- one cell more: its kind, its length -/
def nsh (sh : Sh) (kd len : Nat) : Sh := (sh.1 + 1, va_up sh.2.1 sh.1 kd, va_up sh.2.2.1 sh.1 len, va_up sh.2.2.2 sh.1 (fun _ => none))
def zi (I : Mi) (a : Nat) : Mi := va_up I a (fun _ => 0)
def zj (J : Mj) (a : Nat) : Mj := va_up J a (fun _ => 0)
abbrev rg (x : Int) : Prop := -2147483648 ≤ x ∧ x < 2147483648
abbrev rl (x : Int) : Prop := -9223372036854775808 ≤ x ∧ x < 9223372036854775808
def bd {α β : Type} (o : Option α) (f : α → Option β) : Option β := match o with
  | some a => f a
  | none => none
def bd2 {α β γ : Type} (o : Option (α × β)) (f : α → β → Option γ) : Option γ := match o with
  | some q => f q.1 q.2
  | none => none
theorem bd_some {α β : Type} (a : α) (f : α → Option β) : bd (some a) f = f a := rfl
theorem bd2_some {α β γ : Type} (a : α) (b : β) (f : α → β → Option γ) : bd2 (some (a, b)) f = f a b := rfl
theorem bnd {α β : Type} {o : Option α} {f : α → Option β} {r : β} (h : bd o f = some r) : ∃ a, o = some a ∧ f a = some r := by
  cases o with
  | none => cases h
  | some a => exact ⟨a, rfl, h⟩
theorem bnd2 {α β γ : Type} {o : Option (α × β)} {f : α → β → Option γ} {r : γ} (h : bd2 o f = some r) : ∃ a b, o = some (a, b) ∧ f a b = some r := by
  cases o with
  | none => cases h
  | some q => exact ⟨q.1, q.2, rfl, h⟩
theorem bd_of {α β : Type} {o : Option α} {f : α → Option β} {a : α} {r : β} (h : o = some a) (k : f a = some r) : bd o f = some r := by rw [h]; exact k
/-- a loop: its step goes on or ends -/
def lp {α β : Type} (f : α → Option (α ⊕ β)) : Nat → α → Option β
  | 0, _ => none
  | n + 1, x => bd (f x) (fun z => Sum.elim (fun y => lp f n y) (fun b => some b) z)
def lpc {α β : Type} (f : α → Option (α ⊕ β)) (n : Nat) (z : α ⊕ β) (b : β) : Prop := Sum.elim (fun y => lp f n y) (fun b => some b) z = some b
theorem lp_s {α β : Type} {f : α → Option (α ⊕ β)} {n : Nat} {x : α} {b : β} (h : lp f (n + 1) x = some b) : ∃ z, f x = some z ∧ lpc f n z b := bnd h
theorem lp_0 {α β : Type} {f : α → Option (α ⊕ β)} {x : α} {b : β} (h : lp f 0 x = some b) : False := by cases h
/-- a loop by an invariant and a measure -/
theorem lp_inv {α β : Type} (f : α → Option (α ⊕ β)) (P : α → Prop) (Q : β → Prop) (m : α → Nat) (h : ∀ x, P x → (∃ y, f x = some (.inl y) ∧ P y ∧ m y < m x) ∨ (∃ b, f x = some (.inr b) ∧ Q b)) : ∀ (n : Nat) (x : α), m x < n → P x → ∃ b, lp f n x = some b ∧ Q b := by
  intro n
  induction n with
  | zero => intro x hm; exact absurd hm (Nat.not_lt_zero _)
  | succ n ih =>
    intro x hm hP
    rcases h x hP with ⟨y, hy, hPy, hmy⟩ | ⟨b, hb, hQ⟩
    · obtain ⟨b, hb, hQ⟩ := ih y (by omega) hPy
      exact ⟨b, by unfold lp; rw [hy]; exact hb, hQ⟩
    · exact ⟨b, by unfold lp; rw [hb]; rfl, hQ⟩
/-- reads and writes that are none where the machine would throw -/
def gI (M : Mm) (c o j : Nat) : Option Int := if o < M.1.1 ∧ M.1.2.1 o = c then some (gi M.2.1 o j) else none
def gJ (M : Mm) (c o j : Nat) : Option Int := if o < M.1.1 ∧ M.1.2.1 o = c then some (gj M.2.2 o j) else none
def gR (M : Mm) (c o j : Nat) : Option Nat := if o < M.1.1 ∧ M.1.2.1 o = c then M.1.2.2.2 o j else none
def aI (kd : Nat) (M : Mm) (a : Nat) (x : Int) : Option Int := if (a < M.1.1 ∧ M.1.2.1 a = kd ∧ M.1.2.2.1 a < 2147483648) ∧ 0 ≤ x ∧ x < M.1.2.2.1 a then some (gi M.2.1 a x.toNat) else none
def aJ (M : Mm) (a : Nat) (x : Int) : Option Int := if (a < M.1.1 ∧ M.1.2.1 a = 13 ∧ M.1.2.2.1 a < 2147483648) ∧ 0 ≤ x ∧ x < M.1.2.2.1 a then some (gj M.2.2 a x.toNat) else none
def aR (kd : Nat) (M : Mm) (a : Nat) (x : Int) : Option (Option Nat) := if (a < M.1.1 ∧ M.1.2.1 a = kd ∧ M.1.2.2.1 a < 2147483648) ∧ 0 ≤ x ∧ x < M.1.2.2.1 a then some (M.1.2.2.2 a x.toNat) else none
def aL (M : Mm) (a : Nat) : Option Int := if a < M.1.1 ∧ (12 ≤ M.1.2.1 a ∧ M.1.2.1 a ≤ 16) ∧ M.1.2.2.1 a < 2147483648 then some (M.1.2.2.1 a : Int) else none
def pI (M : Mm) (c o j : Nat) (v : Int) : Option Mm := if o < M.1.1 ∧ M.1.2.1 o = c then some (M.1, wi M.2.1 o j v, M.2.2) else none
def pJ (M : Mm) (c o j : Nat) (v : Int) : Option Mm := if o < M.1.1 ∧ M.1.2.1 o = c then some (M.1, M.2.1, wj M.2.2 o j v) else none
def wrf (sh : Sh) (o j : Nat) (v : Option Nat) : Sh := (sh.1, sh.2.1, sh.2.2.1, up2 sh.2.2.2 o j v)
def pR (M : Mm) (c o j t : Nat) : Option Mm := if o < M.1.1 ∧ M.1.2.1 o = c then some (wrf M.1 o j (some t), M.2.1, M.2.2) else none
def sI (kd : Nat) (M : Mm) (a : Nat) (x v : Int) : Option Mm := if (a < M.1.1 ∧ M.1.2.1 a = kd ∧ M.1.2.2.1 a < 2147483648) ∧ 0 ≤ x ∧ x < M.1.2.2.1 a then some (M.1, wi M.2.1 a x.toNat v, M.2.2) else none
def sJ (M : Mm) (a : Nat) (x v : Int) : Option Mm := if (a < M.1.1 ∧ M.1.2.1 a = 13 ∧ M.1.2.2.1 a < 2147483648) ∧ 0 ≤ x ∧ x < M.1.2.2.1 a then some (M.1, M.2.1, wj M.2.2 a x.toNat v) else none
def sR (kd : Nat) (M : Mm) (a : Nat) (x : Int) (t : Nat) : Option Mm := if (a < M.1.1 ∧ M.1.2.1 a = kd ∧ M.1.2.2.1 a < 2147483648 ∧ t < M.1.1 ∧ (kd = 15 ∧ M.1.2.1 t = 1 ∨ kd = 16 ∧ M.1.2.1 t = 8)) ∧ 0 ≤ x ∧ x < M.1.2.2.1 a then some (wrf M.1 a x.toNat (some t), M.2.1, M.2.2) else none
def nC (M : Mm) (c L : Nat) : Mm := (nsh M.1 c L, zi M.2.1 M.1.1, zj M.2.2 M.1.1)
def cpA (M : Mm) (a : Nat) (sp : Int) (b : Nat) (dp cn : Int) : Option Mm := if (a < M.1.1 ∧ M.1.2.1 a = 12 ∧ M.1.2.2.1 a < 2147483648) ∧ (b < M.1.1 ∧ M.1.2.1 b = 12 ∧ M.1.2.2.1 b < 2147483648) ∧ 0 ≤ sp ∧ 0 ≤ dp ∧ 0 ≤ cn ∧ sp + cn ≤ M.1.2.2.1 a ∧ dp + cn ≤ M.1.2.2.1 b then some (M.1, cp M.2.1 b dp a sp cn, M.2.2) else none
/-- the numbers' operations -/
def and32 (a b : Int) : Int := (iv a &&& iv b).toInt
def or32 (a b : Int) : Int := (iv a ||| iv b).toInt
def xor32 (a b : Int) : Int := (iv a ^^^ iv b).toInt
def shl32 (a b : Int) : Int := (iv a <<< (iv b &&& 31)).toInt
def shr32 (a b : Int) : Int := (iv a >>> (iv b &&& 31)).toInt
def ushr32 (a b : Int) : Int := ((iv a).toUInt32 >>> ((iv b).toUInt32 &&& Int32.toUInt32 31)).toInt32.toInt
def and64 (a b : Int) : Int := (jv a &&& jv b).toInt
def or64 (a b : Int) : Int := (jv a ||| jv b).toInt
def shl64 (a b : Int) : Int := (jv a <<< ((iv b).toInt64 &&& 63)).toInt
def shr64 (a b : Int) : Int := (jv a >>> ((iv b).toInt64 &&& 63)).toInt
def ushr64 (a b : Int) : Int := ((jv a).toUInt64 >>> ((iv b).toInt64.toUInt64 &&& Int64.toUInt64 63)).toInt64.toInt
def div32 (a b : Int) : Option Int := if iv b = 0 then none else some (iv a / iv b).toInt
def rem32 (a b : Int) : Option Int := if iv b = 0 then none else some (iv a - iv a / iv b * iv b).toInt
def max32 (a b : Int) : Int := if a < b then b else a
def min32 (a b : Int) : Int := if b < a then b else a
theorem and32_rng (a b : Int) : rg (and32 a b) := iv_rng _
theorem or32_rng (a b : Int) : rg (or32 a b) := iv_rng _
theorem xor32_rng (a b : Int) : rg (xor32 a b) := iv_rng _
theorem shl32_rng (a b : Int) : rg (shl32 a b) := iv_rng _
theorem shr32_rng (a b : Int) : rg (shr32 a b) := iv_rng _
theorem ushr32_rng (a b : Int) : rg (ushr32 a b) := iv_rng _
theorem and64_rng (a b : Int) : rl (and64 a b) := jv_rng _
theorem or64_rng (a b : Int) : rl (or64 a b) := jv_rng _
theorem shl64_rng (a b : Int) : rl (shl64 a b) := jv_rng _
theorem shr64_rng (a b : Int) : rl (shr64 a b) := jv_rng _
theorem ushr64_rng (a b : Int) : rl (ushr64 a b) := jv_rng _
theorem max32_rng {a b : Int} (ha : rg a) (hb : rg b) : rg (max32 a b) := by unfold max32; split <;> assumption
theorem min32_rng {a b : Int} (ha : rg a) (hb : rg b) : rg (min32 a b) := by unfold min32; split <;> assumption
theorem rl_of {a : Int} (h : rg a) : rl a := by omega
theorem rg01 {r : Int} (h : r = 0 ∨ r = 1) : rg r := by omega
theorem lp_back {α β : Type} {f : α → Option (α ⊕ β)} {n : Nat} {y : α} {z : α ⊕ β} {b : β} (h : some (Sum.inl y) = some z) (hZ : lpc f n z b) : lp f n y = some b := by cases h; exact hZ
theorem lp_ex {α β γ : Type} {f : α → Option (α ⊕ β)} {n : Nat} {e : β} {z : α ⊕ β} {b : β} {K : β → Option γ} {r : γ} (h : some (Sum.inr e) = some z) (hZ : lpc f n z b) (hc : K b = some r) : K e = some r := by cases h; cases hZ; exact hc
theorem lp_ret {α β γ : Type} {f : α → Option (α ⊕ (β ⊕ γ))} {n : Nat} {t : γ} {z : α ⊕ (β ⊕ γ)} {b : β ⊕ γ} {K : β ⊕ γ → Option γ} {r : γ} (h : some (Sum.inr (Sum.inr t)) = some z) (hZ : lpc f n z b) (hc : K b = some r) : K (Sum.inr t) = some r := by cases h; cases hZ; exact hc
def gK {α : Type} (M : Mm) (c o : Nat) (x : Option α) : Option α := if o < M.1.1 ∧ M.1.2.1 o = c then x else none
theorem gK_inv {α : Type} {M : Mm} {c o : Nat} {x : Option α} {r : α} (h : gK M c o x = some r) : Kd M o c ∧ x = some r := by
  unfold gK at h
  split at h
  · rename_i hk; exact ⟨hk, h⟩
  · cases h
def fu : Nat := 100000
def nA (x : Int) : Option Nat := if 0 ≤ x ∧ x < 4000 then some x.toNat else none
theorem nA_eq {x : Int} {u : Nat} (h : nA x = some u) : x = (u : Int) := by
  unfold nA at h
  split at h
  · cases h; omega
  · cases h
theorem nA_lt2 {x : Int} {u : Nat} (h : nA x = some u) : u < 4000 := by
  unfold nA at h
  split at h
  · cases h; omega
  · cases h
theorem nA_lt {x : Int} {u : Nat} (h : nA x = some u) : u < 100000 := by have := nA_lt2 h; omega
/-- the static rows of Law -/
def stl : List (List Int) := [[0, 50, 50, 5], [0, 0, 1, 1], [100, 200, 999, 9]]
def sA (k : Nat) (x : Int) : Option Int := if 0 ≤ x ∧ x < 4 then some ((stl.getD k []).getD x.toNat 0) else none
def told : List Int := [119, 104, 111, 32, 98, 101, 103, 115, 32, 111, 119, 101, 115, 32, 109, 105, 110, 116, 32, 116, 97, 107, 101, 115, 32, 108, 117, 99, 107, 121, 32, 100, 101, 97, 100, 32, 116, 104, 105, 110, 32, 102, 97, 99, 101, 115, 32, 111, 114, 32, 97, 110, 100, 32, 110, 111, 116, 32, 98, 101, 97, 114, 115, 32, 115, 104, 111, 119, 115, 32, 104, 101, 108, 100, 32, 102, 97, 108, 115, 101, 32, 103, 114, 97, 105, 110, 115, 32, 108, 97, 121, 101, 114, 115, 32, 115, 116, 114, 117, 99, 107, 32]
def chA (x : Int) : Option Int := if 0 ≤ x ∧ x < 102 then some (told.getD x.toNat 0) else none
