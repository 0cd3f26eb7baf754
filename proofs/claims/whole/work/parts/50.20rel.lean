def wd32 (l : List Int) : Int := l.foldl (fun a d => a * 32 + d) 0
def wd27 (l : List Int) : Int := l.foldl (fun a d => 27 * a + d) 0
def Ltr (l : List Int) : Prop := (1 ≤ l.length ∧ l.length ≤ 6) ∧ ∀ d ∈ l, 1 ≤ d ∧ d ≤ 26
/-- one NAME as both keep it -/
def NmR (a b : Int) : Prop := ∃ l, Ltr l ∧ a = wd32 l ∧ b = wd27 l
def LawR (l : Nat) (I : Mi) (S nm : Int → Int) : Prop :=
  gi I l 1 = S 0 ∧ gi I l 2 = S 1 ∧ gi I l 3 = S 2 ∧ (∀ j, 0 ≤ j → j < 4 → ri I (l + 8) j = S (3 + j))
  ∧ (∀ w, 0 ≤ w → w < S 0 → NmR (ri I (l + 1) w) (nm w)) ∧ (∀ w, 0 ≤ w → w < S 0 → ri I (l + 2) w = ow S w 0) ∧ (∀ w, 0 ≤ w → w < S 0 → ri I (l + 3) w = ow S w 1)
  ∧ (∀ m, 0 ≤ m → m < S 1 → ri I (l + 5) m = om S m 0) ∧ (∀ m, 0 ≤ m → m < S 1 → ri I (l + 6) m = om S m 1)
  ∧ (∀ a b, 0 ≤ a → a < S 0 → 0 ≤ b → b < S 0 → ri I (l + 7) (a * 8 + b) = ot S a b - 1)
def CgR (g : Nat) (I : Mi) (S : Int → Int) : Prop :=
  gi I g 0 = S 108 ∧ gi I g 1 = S 112 ∧ gi I g 2 = S 113 ∧ gi I g 3 = S 109 ∧ gi I g 6 = S 110 ∧ gi I g 7 = S 111 ∧ gi I g 8 = S 114
  ∧ (0 ≤ gi I g 4 ∧ gi I g 4 < 256) ∧ (∀ w, 0 ≤ w → w < S 0 → bitI (gi I g 4) w = ow S w 2) ∧ (0 ≤ gi I g 5 ∧ gi I g 5 < 16) ∧ (∀ m, 0 ≤ m → m < S 1 → bitI (gi I g 5) m = om S m 2)
  ∧ (∀ c, 0 ≤ c → c < S 108 → ri I (g + 1) c = oc S c 0) ∧ (∀ c, 0 ≤ c → c < S 108 → ri I (g + 2) c = oc S c 1) ∧ (∀ c, 0 ≤ c → c < S 108 → ri I (g + 3) c = oc S c 2) ∧ (∀ c, 0 ≤ c → c < S 108 → ri I (g + 4) c = oc S c 3)
  ∧ (∀ c i, 0 ≤ c → c < S 108 → 0 ≤ i → i < oc S c 3 → ri I (g + 5) (c * 9 + i) = fa S c i 2) ∧ (∀ c i, 0 ≤ c → c < S 108 → 0 ≤ i → i < oc S c 3 → ri I (g + 6) (c * 9 + i) = fa S c i 1)
def TbR (t u : Nat) (I : Mi) (S : Int → Int) : Prop :=
  gi I t 0 = 6 ∧ gi I u 0 = 7 ∧ (∀ k j, 0 ≤ k → k < S 112 → 0 ≤ j → j < 6 → ri I (t + 1) (k * 6 + j) = sk S k j) ∧ (∀ k j, 0 ≤ k → k < S 113 → 0 ≤ j → j < 7 → ri I (u + 1) (k * 7 + j) = osl S k j)
/-- the class's world stands for the state S, its NAMES for nm -/
def RepC (I : Mi) (S nm : Int → Int) : Prop := LawR 17 I S nm ∧ CgR 26 I S ∧ TbR 33 35 I S ∧ InvL S ∧ InvC S
section REP
variable {I : Mi} {S nm : Int → Int}
theorem RepC.iL (r : RepC I S nm) : InvL S := r.2.2.2.1
theorem RepC.iC (r : RepC I S nm) : InvC S := r.2.2.2.2
theorem RepC.people (r : RepC I S nm) : gi I 17 1 = S 0 := r.1.1
theorem RepC.mints (r : RepC I S nm) : gi I 17 2 = S 1 := r.1.2.1
theorem RepC.told (r : RepC I S nm) : gi I 17 3 = S 2 := r.1.2.2.1
theorem RepC.sett (r : RepC I S nm) {j : Int} (h1 : 0 ≤ j) (h2 : j < 4) : ri I 25 j = S (3 + j) := r.1.2.2.2.1 j h1 h2
theorem RepC.set0 (r : RepC I S nm) : ri I 25 0 = S 3 := r.sett (by decide) (by decide)
theorem RepC.set1 (r : RepC I S nm) : ri I 25 1 = S 4 := r.sett (by decide) (by decide)
theorem RepC.set2 (r : RepC I S nm) : ri I 25 2 = S 5 := r.sett (by decide) (by decide)
theorem RepC.set3 (r : RepC I S nm) : ri I 25 3 = S 6 := r.sett (by decide) (by decide)
theorem RepC.name (r : RepC I S nm) {w : Int} (h1 : 0 ≤ w) (h2 : w < S 0) : NmR (ri I 18 w) (nm w) := r.1.2.2.2.2.1 w h1 h2
theorem RepC.begs (r : RepC I S nm) {w : Int} (h1 : 0 ≤ w) (h2 : w < S 0) : ri I 19 w = ow S w 0 := r.1.2.2.2.2.2.1 w h1 h2
theorem RepC.owes (r : RepC I S nm) {w : Int} (h1 : 0 ≤ w) (h2 : w < S 0) : ri I 20 w = ow S w 1 := r.1.2.2.2.2.2.2.1 w h1 h2
theorem RepC.loss (r : RepC I S nm) {m : Int} (h1 : 0 ≤ m) (h2 : m < S 1) : ri I 22 m = om S m 0 := r.1.2.2.2.2.2.2.2.1 m h1 h2
theorem RepC.blur (r : RepC I S nm) {m : Int} (h1 : 0 ≤ m) (h2 : m < S 1) : ri I 23 m = om S m 1 := r.1.2.2.2.2.2.2.2.2.1 m h1 h2
theorem RepC.takes (r : RepC I S nm) {a b : Int} (h1 : 0 ≤ a) (h2 : a < S 0) (h3 : 0 ≤ b) (h4 : b < S 0) : ri I 24 (a * 8 + b) = ot S a b - 1 := r.1.2.2.2.2.2.2.2.2.2 a b h1 h2 h3 h4
theorem RepC.coins (r : RepC I S nm) : gi I 26 0 = S 108 := r.2.1.1
theorem RepC.strokes (r : RepC I S nm) : gi I 26 1 = S 112 := r.2.1.2.1
theorem RepC.sales (r : RepC I S nm) : gi I 26 2 = S 113 := r.2.1.2.2.1
theorem RepC.day (r : RepC I S nm) : gi I 26 3 = S 109 := r.2.1.2.2.2.1
theorem RepC.dieOf (r : RepC I S nm) : gi I 26 6 = S 110 := r.2.1.2.2.2.2.1
theorem RepC.dieBy (r : RepC I S nm) : gi I 26 7 = S 111 := r.2.1.2.2.2.2.2.1
theorem RepC.made (r : RepC I S nm) : gi I 26 8 = S 114 := r.2.1.2.2.2.2.2.2.1
theorem RepC.deadB (r : RepC I S nm) : 0 ≤ gi I 26 4 ∧ gi I 26 4 < 256 := r.2.1.2.2.2.2.2.2.2.1
theorem RepC.dead (r : RepC I S nm) {w : Int} (h1 : 0 ≤ w) (h2 : w < S 0) : bitI (gi I 26 4) w = ow S w 2 := r.2.1.2.2.2.2.2.2.2.2.1 w h1 h2
theorem RepC.closedB (r : RepC I S nm) : 0 ≤ gi I 26 5 ∧ gi I 26 5 < 16 := r.2.1.2.2.2.2.2.2.2.2.2.1
theorem RepC.closed (r : RepC I S nm) {m : Int} (h1 : 0 ≤ m) (h2 : m < S 1) : bitI (gi I 26 5) m = om S m 2 := r.2.1.2.2.2.2.2.2.2.2.2.2.1 m h1 h2
theorem RepC.grains (r : RepC I S nm) {c : Int} (h1 : 0 ≤ c) (h2 : c < S 108) : ri I 27 c = oc S c 0 := r.2.1.2.2.2.2.2.2.2.2.2.2.2.1 c h1 h2
theorem RepC.owner (r : RepC I S nm) {c : Int} (h1 : 0 ≤ c) (h2 : c < S 108) : ri I 28 c = oc S c 1 := r.2.1.2.2.2.2.2.2.2.2.2.2.2.2.1 c h1 h2
theorem RepC.had (r : RepC I S nm) {c : Int} (h1 : 0 ≤ c) (h2 : c < S 108) : ri I 29 c = oc S c 2 := r.2.1.2.2.2.2.2.2.2.2.2.2.2.2.2.1 c h1 h2
theorem RepC.layers (r : RepC I S nm) {c : Int} (h1 : 0 ≤ c) (h2 : c < S 108) : ri I 30 c = oc S c 3 := r.2.1.2.2.2.2.2.2.2.2.2.2.2.2.2.2.1 c h1 h2
theorem RepC.fst (r : RepC I S nm) {c i : Int} (h1 : 0 ≤ c) (h2 : c < S 108) (h3 : 0 ≤ i) (h4 : i < oc S c 3) : ri I 31 (c * 9 + i) = fa S c i 2 := r.2.1.2.2.2.2.2.2.2.2.2.2.2.2.2.2.2.1 c i h1 h2 h3 h4
theorem RepC.fdp (r : RepC I S nm) {c i : Int} (h1 : 0 ≤ c) (h2 : c < S 108) (h3 : 0 ≤ i) (h4 : i < oc S c 3) : ri I 32 (c * 9 + i) = fa S c i 1 := r.2.1.2.2.2.2.2.2.2.2.2.2.2.2.2.2.2.2 c i h1 h2 h3 h4
theorem RepC.wS (r : RepC I S nm) : gi I 33 0 = 6 := r.2.2.1.1
theorem RepC.wL (r : RepC I S nm) : gi I 35 0 = 7 := r.2.2.1.2.1
theorem RepC.stk (r : RepC I S nm) {k j : Int} (h1 : 0 ≤ k) (h2 : k < S 112) (h3 : 0 ≤ j) (h4 : j < 6) : ri I 34 (k * 6 + j) = sk S k j := r.2.2.1.2.2.1 k j h1 h2 h3 h4
theorem RepC.sal (r : RepC I S nm) {k j : Int} (h1 : 0 ≤ k) (h2 : k < S 113) (h3 : 0 ≤ j) (h4 : j < 7) : ri I 36 (k * 7 + j) = osl S k j := r.2.2.1.2.2.2 k j h1 h2 h3 h4
end REP
theorem suC_le {f : Int → Int} {b : Int} (n : Nat) (h : ∀ i : Int, 0 ≤ i → i < n → 0 ≤ f i ∧ f i ≤ b) : 0 ≤ suC f n ∧ suC f n ≤ b * n := by
  induction n with
  | zero => simp [suC]
  | succ n ih =>
    have h1 := ih (fun i h1 h2 => h i h1 (by omega))
    have h2 := h n (by omega) (by omega)
    simp only [suC]
    refine ⟨by omega, ?_⟩
    have e : b * ((n + 1 : Nat) : Int) = b * n + b := by rw [Int.natCast_add, Int.mul_add]; simp
    omega
theorem InvC.st {S : Int → Int} (u : InvC S) : 0 ≤ S 112 ∧ S 112 ≤ 360 := by
  obtain ⟨u0, -, -, u3, -, -, -, u7, -⟩ := u
  have := suC_le (f := fun c => oc S c 2) (b := 9) (S 108).toNat (fun i h1 h2 => by have := u7 i (by omega); omega)
  rw [← u3] at this
  omega
/-- loops that add up, loops that seek -/
theorem lp_su {f : Int × Int → Option ((Int × Int) ⊕ Int)} (g : Int → Int) (n : Int) (hn : 0 ≤ n ∧ n < 100000) (hs : ∀ (i : Nat), (i : Int) < n → f (suC g i, i) = some (.inl (suC g i + g i, (i : Int) + 1))) (he : ∀ a, a = suC g n.toNat → f (a, n) = some (.inr a)) : lp f fu (0, 0) = some (suC g n.toNat) := by
  refine lp_fu (fun i => (suC g i, (i : Int))) n.toNat rfl (fun i hi => ?_) ?_ (by omega)
  · rw [hs i (by omega)]; rfl
  · have := he _ rfl
    rwa [show (n.toNat : Int) = n from by omega]
def anyB (p : Int → Bool) : Nat → Bool
  | 0 => false
  | n + 1 => anyB p n || p n
theorem anyB_t {p : Int → Bool} {n : Nat} : anyB p n = true ↔ ∃ i : Int, 0 ≤ i ∧ i < n ∧ p i = true := by
  induction n with
  | zero => simp only [anyB]; constructor
            · intro h; cases h
            · intro ⟨i, h1, h2, _⟩; omega
  | succ n ih =>
    simp only [anyB, Bool.or_eq_true, ih]
    constructor
    · rintro (⟨i, h1, h2, h3⟩ | h)
      · exact ⟨i, h1, by omega, h3⟩
      · exact ⟨n, by omega, by omega, h⟩
    · rintro ⟨i, h1, h2, h3⟩
      by_cases h : i = n
      · subst h; exact .inr h3
      · exact .inl ⟨i, h1, by omega, h3⟩
theorem lp_any {f : Int → Option (Int ⊕ (Unit ⊕ Int))} (p : Int → Bool) (n : Int) (hn : 0 ≤ n ∧ n < 100000) (h : ∀ v, 0 ≤ v → v < n → f v = if p v = true then some (.inr (.inr 1)) else some (.inl (v + 1))) (he : f n = some (.inr (.inl ()))) : ∃ b, lp f fu 0 = some b ∧ Sum.elim (fun _ => some 0) (fun t => some t) b = some (if anyB p n.toNat = true then 1 else (0 : Int)) := by
  refine lp_fi (fun i v => v = (i : Int) ∧ anyB p i = false) (fun b => Sum.elim (fun _ => some 0) (fun t => some t) b = some (if anyB p n.toNat = true then 1 else (0 : Int))) n.toNat ⟨rfl, rfl⟩ ?_ (by omega)
  rintro i y hi ⟨rfl, ha⟩
  by_cases hin : i = n.toNat
  · right
    refine ⟨_, by rw [show (i : Int) = n from by omega]; exact he, ?_⟩
    rw [← hin, ha]; rfl
  · by_cases hp : p i = true
    · right
      refine ⟨_, by rw [h i (by omega) (by omega), if_pos hp], ?_⟩
      have : anyB p n.toNat = true := anyB_t.mpr ⟨i, by omega, by omega, hp⟩
      rw [this]; rfl
    · left
      refine ⟨by omega, (i : Int) + 1, by rw [h i (by omega) (by omega), if_neg hp], rfl, ?_⟩
      simp only [anyB, ha, Bool.false_or]
      exact Bool.eq_false_iff.mpr hp
