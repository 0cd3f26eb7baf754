noncomputable def dB (p : Prop) : Bool := @decide p (Classical.propDecidable p)
theorem dB_t {p : Prop} : dB p = true ↔ p := @decide_eq_true_iff p (Classical.propDecidable p)
theorem dB_f {p : Prop} (h : ¬ p) : dB p = false := Bool.eq_false_iff.mpr fun q => h (dB_t.mp q)
def lf (S μ : Int → Int) (g : Int) : Nat → Int
  | 0 => g
  | i + 1 => lf S μ g i - om S (μ i) 0
theorem lf_cong {S μ ν : Int → Int} {g : Int} : ∀ {k : Nat}, (∀ i : Int, 0 ≤ i → i < k → μ i = ν i) → lf S μ g k = lf S ν g k
  | 0, _ => rfl
  | k + 1, h => by unfold lf; rw [lf_cong (k := k) fun i h1 h2 => h i h1 (by omega), h k (by omega) (by omega)]
theorem lf_b {S μ : Int → Int} {g : Int} (v : InvL S) : ∀ {k : Nat}, (∀ i : Int, 0 ≤ i → i < k → isM S (μ i)) → g - 50 * (k : Int) ≤ lf S μ g k ∧ lf S μ g k ≤ g
  | 0, _ => by unfold lf; omega
  | k + 1, h => by
    have h1 := lf_b v (g := g) (k := k) fun i h1 h2 => h i h1 (by omega)
    have h2 := (v.2.2.2.2.2.2.2.2.1 _ (h k (by omega) (by omega))).1
    unfold lf; omega
noncomputable def Gr (S : Int → Int) (c g : Int) (n : Nat) (μ : Int → Int) : Bool := dB ((n : Int) ≤ S 6 ∧ (∀ i : Nat, i < n → S 5 ≤ lf S μ g (i + 1)) ∧ lf S μ g n = oc S c 0 ∧ depOk S μ c n)
noncomputable def Ur (S : Int → Int) (c : Int) (n : Nat) (j w : Int) : Bool := dB ((n : Int) - 1 - j < oc S c 3 → w = fa S c (n - 1 - j) 0)
noncomputable def Ac (S : Int → Int) (c g : Int) (n : Nat) (μ ws : Int → Int) : Bool := Gr S c g n μ && allB (fun j => Ur S c n j (ws j)) n
theorem like_iff {S μ ws : Int → Int} {c : Int} {n : Nat} (v : InvL S) (hm : inR S μ n) : like S μ ws c n ↔ depOk S μ c n ∧ allB (fun j => Ur S c n j (ws j)) n = true := by
  have hl := (lyr_k v hm (k := n) (by omega)).1
  unfold like depOk
  rw [allB_t, Int.toNat_natCast]
  constructor
  · rintro ⟨h1, h2⟩
    refine ⟨⟨h1, fun k h3 h4 => (h2 k h3 h4).2⟩, fun j h3 h4 => dB_t.mpr fun h5 => ?_⟩
    have := (h2 (n - 1 - j) (by omega) h5).1
    rwa [show (n : Int) - 1 - (n - 1 - j) = j from by omega] at this
  · rintro ⟨⟨h1, h2⟩, h3⟩
    refine ⟨h1, fun k h4 h5 => ⟨?_, h2 k h4 h5⟩⟩
    have := dB_t.mp (h3 (n - 1 - k) (by omega) (by omega)) (by omega)
    rwa [show (n : Int) - 1 - (n - 1 - k) = k from by omega] at this
def HI (n : Nat) (I : Mi) (l : List ((Int → Int) × (Int → Int))) : Prop := gi I 57 39 = w32 l.length ∧ ∀ i : Int, 0 ≤ i → i < n → ((0 ≤ ri I 75 i ∧ ri I 75 i < 256) ∧ (0 ≤ ri I 76 i ∧ ri I 76 i < 16)) ∧ (∀ b, 0 ≤ b → b < 8 → (bitI (ri I 75 i) b = 1 ↔ ∃ x, x ∈ l ∧ x.2 i = b)) ∧ (∀ b, 0 ≤ b → b < 4 → (bitI (ri I 76 i) b = 1 ↔ ∃ x, x ∈ l ∧ x.1 i = b))
def FrR (I I' : Mi) : Prop := (∀ a, a < 57 ∨ (57 < a ∧ a < 73) ∨ 78 < a → I' a = I a) ∧ ∀ j, j ≠ 39 → I' 57 j = I 57 j
theorem FrR.refl (I : Mi) : FrR I I := ⟨fun _ _ => rfl, fun _ _ => rfl⟩
theorem FrR.trans {I I1 I2 : Mi} (h : FrR I I1) (k : FrR I1 I2) : FrR I I2 := ⟨fun a q => (k.1 a q).trans (h.1 a q), fun j q => (k.2 j q).trans (h.2 j q)⟩
theorem HI.fr {n : Nat} {I I' : Mi} {l : List ((Int → Int) × (Int → Int))} (h : HI n I l) (h1 : I' 57 = I 57) (h2 : I' 75 = I 75) (h3 : I' 76 = I 76) : HI n I' l := by
  unfold HI
  rw [gi_of I I' _ h1, ri_fun h2, ri_fun h3]; exact h
theorem w32_add (a b : Int) : w32 (w32 a + b) = w32 (a + b) := by
  unfold w32; rw [← iv_add, iv_self, iv_add]
theorem w32_mul (a b : Int) : w32 (w32 a * b) = w32 (a * b) := by
  unfold w32; rw [← iv_mul, iv_self, iv_mul]
theorem rX_mark (rc : Nat → Int → Int → Int → Int → Mm → Option Mm) {sh : Sh} (h : St sh) (I : Mi) (J : Mj) {n : Nat} (hn : n ≤ 9) : ∃ I', uX10_tryRows_b39 rc 57 n 0 (sh, I, J) = some (sh, I', J) ∧ (∀ a, a ≠ 75 → a ≠ 76 → I' a = I a) ∧ ∀ i : Int, 0 ≤ i → i < n → ri I' 75 i = or32 (ri I 75 i) (shl32 1 (ri I 73 i)) ∧ ri I' 76 i = or32 (ri I 76 i) (shl32 1 (ri I 74 i)) := by
  obtain ⟨b, hb, I1, hI1, hf1, hd1⟩ := lp_fi (f := uX10_tryRows_f39 rc 57 n) (x := (0, (sh, I, J))) (fun k y => ∃ I1, y = ((k : Int), (sh, I1, J)) ∧ (∀ a, a ≠ 75 → a ≠ 76 → I1 a = I a) ∧ ∀ i : Int, 0 ≤ i → i < n → ri I1 75 i = (if i < k then or32 (ri I 75 i) (shl32 1 (ri I 73 i)) else ri I 75 i) ∧ ri I1 76 i = if i < k then or32 (ri I 76 i) (shl32 1 (ri I 74 i)) else ri I 76 i) (fun b => ∃ I1, b = (sh, I1, J) ∧ (∀ a, a ≠ 75 → a ≠ 76 → I1 a = I a) ∧ ∀ i : Int, 0 ≤ i → i < n → ri I1 75 i = or32 (ri I 75 i) (shl32 1 (ri I 73 i)) ∧ ri I1 76 i = or32 (ri I 76 i) (shl32 1 (ri I 74 i))) n
    ⟨I, rfl, fun _ _ _ => rfl, fun i h1 h2 => by rw [if_neg (by omega), if_neg (by omega)]; exact ⟨rfl, rfl⟩⟩ (fun k y hk ⟨I1, hy, hf, hd⟩ => by
      subst hy
      by_cases ck : k = n
      · right
        refine ⟨_, ?_, I1, rfl, hf, fun i h1 h2 => ?_⟩
        · simp only [uX10_tryRows_f39, uX10_tryRows_s39]
          rw [if_pos (by omega)]
        · have := hd i h1 h2
          rw [if_pos (by omega), if_pos (by omega)] at this
          exact this
      · left
        refine ⟨by omega, ?_⟩
        have h0 := hd k (by omega) (by omega)
        rw [if_neg (by omega), if_neg (by omega)] at h0
        have e3 : ri I1 73 k = ri I 73 k := ri_of I I1 _ (hf 73 (by decide) (by decide))
        have e4 : ri I1 74 k = ri I 74 k := ri_of I I1 _ (hf 74 (by decide) (by decide))
        simp only [uX10_tryRows_f39, uX10_tryRows_s39]
        rw [if_neg (by omega)]
        simp (disch := omega) only [SEg h, SEr h, SEa h, SEk h, SEj h, SEl h, SEp h, SEs h, bd_some, bd2_some, w32_id, w64_id, e3, h0.1]
        simp (disch := omega) only [ri_we1, h0.2, e4]
        refine ⟨_, rfl, _, rfl, fun a a1 a2 => ?_, fun i h1 h2 => ?_⟩
        · rw [we_at _ _ _ a2, we_at _ _ _ a1]; exact hf a a1 a2
        · rw [ri_we1 _ _ _ _ (by decide), ri_we _ _ _ _ (by omega) (by omega), ri_we _ _ _ _ (by omega) (by omega), w32_eq (or32_rng _ _), w32_eq (or32_rng _ _)]
          by_cases ci : i = k
          · subst ci
            rw [if_pos ⟨rfl, rfl⟩, if_pos (by omega), if_pos ⟨rfl, rfl⟩, if_pos (by omega)]; exact ⟨rfl, rfl⟩
          · have := hd i h1 h2
            by_cases c2 : i < k
            · rw [if_pos c2, if_pos c2] at this
              rw [if_neg (fun q => ci q.2), if_pos (by omega), if_neg (fun q => ci q.2), if_pos (by omega), ri_we1 _ _ _ _ (by decide)]; exact this
            · rw [if_neg c2, if_neg c2] at this
              rw [if_neg (fun q => ci q.2), if_neg (by omega), if_neg (fun q => ci q.2), if_neg (by omega), ri_we1 _ _ _ _ (by decide)]; exact this) (by omega)
  subst hI1
  refine ⟨I1, ?_, hf1, hd1⟩
  simp only [uX10_tryRows_b39]
  rw [hb]; rfl
theorem HI.add {n : Nat} {I I1 I' : Mi} {l : List ((Int → Int) × (Int → Int))} {μ ws : Int → Int} (H : HI n I l) (hp : n ≤ 9) (h1 : gi I' 57 39 = w32 (gi I 57 39 + 1)) (h2 : ∀ i : Int, 0 ≤ i → i < n → ri I' 75 i = or32 (ri I 75 i) (shl32 1 (ws i)) ∧ ri I' 76 i = or32 (ri I 76 i) (shl32 1 (μ i))) (h3 : ∀ i : Int, 0 ≤ i → i < n → (0 ≤ ws i ∧ ws i < 8) ∧ (0 ≤ μ i ∧ μ i < 4)) : HI n I' (l ++ [(μ, ws)]) := by
  refine ⟨by rw [h1, H.1, w32_add, List.length_append]; rfl, fun i h4 h5 => ?_⟩
  obtain ⟨⟨q1, q2⟩, q3, q4⟩ := H.2 i h4 h5
  obtain ⟨p1, p2⟩ := h3 i h4 h5
  obtain ⟨e1, e2⟩ := h2 i h4 h5
  have a1 := fun b (hb1 : 0 ≤ b) (hb2 : b < 8) => bitI_or (d := ri I 75 i) (w := ws i) (v := b) (n := 8) (by omega) (by omega) (by omega) (by decide) (by omega) (by omega)
  have a2 := fun b (hb1 : 0 ≤ b) (hb2 : b < 4) => bitI_or (d := ri I 76 i) (w := μ i) (v := b) (n := 4) (by omega) (by omega) (by omega) (by decide) (by omega) (by omega)
  have b1 := (a1 0 (by decide) (by decide)).2
  have b2 := (a2 0 (by decide) (by decide)).2
  rw [e1, e2]
  refine ⟨by omega, fun b hb1 hb2 => ?_, fun b hb1 hb2 => ?_⟩
  · rw [(a1 b hb1 hb2).1]
    have := q3 b hb1 hb2
    constructor
    · intro q
      by_cases c : b = ws i
      · exact ⟨(μ, ws), by simp, c.symm⟩
      · rw [if_neg c] at q
        obtain ⟨x, hx, hy⟩ := this.mp q
        exact ⟨x, by simp [hx], hy⟩
    · rintro ⟨x, hx, hy⟩
      rw [List.mem_append, List.mem_singleton] at hx
      rcases hx with hx | rfl
      · split
        · rfl
        · exact this.mpr ⟨x, hx, hy⟩
      · rw [if_pos hy.symm]
  · rw [(a2 b hb1 hb2).1]
    have := q4 b hb1 hb2
    constructor
    · intro q
      by_cases c : b = μ i
      · exact ⟨(μ, ws), by simp, c.symm⟩
      · rw [if_neg c] at q
        obtain ⟨x, hx, hy⟩ := this.mp q
        exact ⟨x, by simp [hx], hy⟩
    · rintro ⟨x, hx, hy⟩
      rw [List.mem_append, List.mem_singleton] at hx
      rcases hx with hx | rfl
      · split
        · rfl
        · exact this.mpr ⟨x, hx, hy⟩
      · rw [if_pos hy.symm]
