theorem cnt_Ur {S : Int → Int} (v : InvL S) (u : InvC S) {c : Int} (hc : isC S c) {n : Nat} {j : Int} (h1 : 0 ≤ j) (h2 : j < n) : cnt (S 0).toNat (Ur S c n) j = if (n : Int) - 1 - j < oc S c 3 then 1 else S 0 := by
  have v0 := v.1
  unfold cnt
  by_cases c1 : (n : Int) - 1 - j < oc S c 3
  · rw [if_pos c1]
    have hw := (u.2.2.2.2.2.2.2.2.1 c (n - 1 - j) hc (by omega) c1).1
    have e := suC_one (fa S c (n - 1 - j) 0).toNat 1 (S 0).toNat
    rw [if_pos (by omega)] at e
    refine Eq.trans (suC_cong _ fun i _ => ?_) e
    by_cases c2 : (i : Int) = fa S c (n - 1 - j) 0
    · have hU : Ur S c n j i = true := dB_t.mpr fun _ => c2
      rw [if_pos hU, if_pos (by omega)]
    · have hU : ¬ Ur S c n j i = true := fun q => c2 (dB_t.mp q c1)
      rw [if_neg hU, if_neg (by omega)]
  · rw [if_neg c1]
    have e := suC_const 1 (S 0).toNat
    refine Eq.trans (suC_cong _ fun i _ => ?_) (e.trans (by omega))
    have hU : Ur S c n j i = true := dB_t.mpr fun q => absurd q c1
    rw [if_pos hU]
def mkw (S : Int → Int) (c : Int) (n : Nat) (i : Int) : Int := if (n : Int) - 1 - i < oc S c 3 then shl32 1 (fa S c (n - 1 - i) 0) else w32 (shl32 1 (S 0) - 1)
theorem c_note {sh : Sh} (h : St sh) {I : Mi} {S nm : Int → Int} (r : RepC I S nm) (J : Mj) {c : Int} (hc : isC S c) {n : Nat} (hn : 1 ≤ n ∧ n ≤ 9) (hl : gi I 53 0 = n) {μ : Int → Int} (hr : ∀ i : Int, 0 ≤ i → i < n → ri I 56 i = μ i) : ∃ I', uX4_note 53 16 c (sh, I, J) = some (w32 (pd n (S 0).toNat (Ur S c n) n), (sh, I', J)) ∧ (∀ a, a ≠ 54 → a ≠ 55 → I' a = I a) ∧ ∀ i : Int, 0 ≤ i → i < n → ri I' 54 i = or32 (ri I 54 i) (mkw S c n i) ∧ ri I' 55 i = or32 (ri I 55 i) (shl32 1 (μ i)) := by
  have u0 := r.iC.1
  have v0 := r.iL.1
  have v1 := r.iL.2.1
  have uc := r.iC.2.2.2.2.2.2.2.1 c hc
  obtain ⟨b, hb, I1, hI1, hf1, hd1⟩ := lp_fi (f := uX4_note_f5 53 16 c) (x := (1, 0, (sh, I, J))) (fun k y => ∃ I1 x, y = (w32 x, (k : Int), (sh, I1, J)) ∧ x * pd n (S 0).toNat (Ur S c n) (n - k) = pd n (S 0).toNat (Ur S c n) n ∧ (∀ a, a ≠ 54 → a ≠ 55 → I1 a = I a) ∧ ∀ i : Int, 0 ≤ i → i < n → ri I1 54 i = (if i < k then or32 (ri I 54 i) (mkw S c n i) else ri I 54 i) ∧ ri I1 55 i = if i < k then or32 (ri I 55 i) (shl32 1 (μ i)) else ri I 55 i) (fun b => ∃ I1, b = (w32 (pd n (S 0).toNat (Ur S c n) n), (sh, I1, J)) ∧ (∀ a, a ≠ 54 → a ≠ 55 → I1 a = I a) ∧ ∀ i : Int, 0 ≤ i → i < n → ri I1 54 i = or32 (ri I 54 i) (mkw S c n i) ∧ ri I1 55 i = or32 (ri I 55 i) (shl32 1 (μ i))) n
    ⟨I, 1, rfl, by rw [Int.one_mul]; rfl, fun _ _ _ => rfl, fun i h1 h2 => by rw [if_neg (by omega), if_neg (by omega)]; exact ⟨rfl, rfl⟩⟩ (fun k y hk ⟨I1, x, hy, hx, hf, hd⟩ => by
      subst hy
      have e0 : gi I1 53 0 = n := by rw [gi_of I I1 _ (hf 53 (by decide) (by decide))]; exact hl
      have r1 : RepC I1 S nm := r.fr fun a _ _ => hf a (by omega) (by omega)
      simp only [uX4_note_f5, uX4_note_s5, SEg h, SEr h, SEa h, SEk h, SEj h, SEl h, SEp h, SEs h, bd_some, bd2_some, e0]
      by_cases ck : k = n
      · right
        subst ck
        rw [Nat.sub_self] at hx
        have hx2 : x * 1 = pd k (S 0).toNat (Ur S c k) k := hx
        rw [Int.mul_one] at hx2
        refine ⟨_, by rw [if_pos (by omega)], I1, by rw [hx2], hf, fun i h1 h2 => ?_⟩
        have := hd i h1 h2
        rw [if_pos (by omega), if_pos (by omega)] at this
        exact this
      · left
        refine ⟨by omega, ?_⟩
        rw [if_neg (by omega)]
        have h0 := hd k (by omega) (by omega)
        rw [if_neg (by omega), if_neg (by omega)] at h0
        have e6 : ri I1 56 k = μ k := by rw [ri_of I I1 _ (hf 56 (by decide) (by decide))]; exact hr k (by omega) (by omega)
        have ep : pd n (S 0).toNat (Ur S c n) (n - k) = cnt (S 0).toNat (Ur S c n) k * pd n (S 0).toNat (Ur S c n) (n - (k + 1)) := by
          rw [show n - k = (n - (k + 1)) + 1 from by omega]
          show cnt _ _ ((n - (n - (k + 1) + 1) : Nat) : Int) * _ = _
          rw [show n - (n - (k + 1) + 1) = k from by omega]
        rw [ep, cnt_Ur r.iL r.iC hc (by omega) (by omega)] at hx
        have e54 : ∀ v : Int, ri (we I1 55 k v) 54 k = ri I 54 k := fun v => by rw [ri_we1 _ _ _ _ (by decide)]; exact h0.1
        have e171 : ∀ v : Int, gi (we I1 55 k v) 17 1 = S 0 := fun v => by rw [gi_we _ _ _ _ (by decide)]; exact r1.people
        have e172 : ∀ v v2 : Int, gi (we (we I1 55 k v) 54 k v2) 17 1 = S 0 := fun v v2 => by rw [gi_we _ _ _ _ (by decide)]; exact e171 v
        simp (disch := omega) only [SEg h, SEr h, SEa h, SEk h, SEj h, SEl h, SEp h, SEs h, bd_some, bd2_some, w32_id, w64_id, c_whoShown h r1, h0.2, e6]
        by_cases c1 : (n : Int) - 1 - k < oc S c 3
        · have hw := (r.iC.2.2.2.2.2.2.2.2.1 c (n - 1 - k) hc (by omega) c1).1
          rw [if_pos c1, Int.one_mul] at hx
          have ek : (if 0 ≤ (n : Int) - 1 - k ∧ (n : Int) - 1 - k < oc S c 3 then fa S c (n - 1 - k) 0 else -1) = fa S c (n - 1 - k) 0 := if_pos ⟨by omega, c1⟩
          rw [ek, if_neg (by omega)]
          simp (disch := omega) only [SEg h, SEr h, SEa h, SEk h, SEj h, SEl h, SEp h, SEs h, bd_some, bd2_some, w32_id, w64_id, e54]
          refine ⟨_, rfl, _, x, rfl, hx, fun a a1 a2 => ?_, fun i h1 h2 => ?_⟩
          · rw [we_at _ _ _ a1, we_at _ _ _ a2]; exact hf a a1 a2
          · rw [ri_we _ _ _ _ (by omega) (by omega), ri_we1 _ _ _ _ (by decide), ri_we1 _ _ _ _ (by decide), ri_we _ _ _ _ (by omega) (by omega), w32_eq (or32_rng _ _), w32_eq (or32_rng _ _)]
            have := hd i h1 h2
            by_cases ci : i = k
            · subst ci
              rw [if_pos ⟨rfl, rfl⟩, if_pos (by omega), if_pos ⟨rfl, rfl⟩, if_pos (by omega)]
              refine ⟨?_, rfl⟩
              unfold mkw; rw [if_pos c1]
            · by_cases c2 : i < k
              · rw [if_pos c2, if_pos c2] at this
                rw [if_neg (fun q => ci q.2), if_pos (by omega), if_neg (fun q => ci q.2), if_pos (by omega)]; exact this
              · rw [if_neg c2, if_neg c2] at this
                rw [if_neg (fun q => ci q.2), if_neg (by omega), if_neg (fun q => ci q.2), if_neg (by omega)]; exact this
        · rw [if_neg c1] at hx
          have ek : (if 0 ≤ (n : Int) - 1 - k ∧ (n : Int) - 1 - k < oc S c 3 then fa S c (n - 1 - k) 0 else -1) = -1 := if_neg fun q => c1 q.2
          rw [ek, if_pos rfl]
          simp (disch := omega) only [SEg h, SEr h, SEa h, SEk h, SEj h, SEl h, SEp h, SEs h, bd_some, bd2_some, w32_id, w64_id, e54, e171, e172]
          refine ⟨_, rfl, _, x * S 0, by rw [w32_mul]; rfl, by rw [Int.mul_assoc]; exact hx, fun a a1 a2 => ?_, fun i h1 h2 => ?_⟩
          · rw [we_at _ _ _ a1, we_at _ _ _ a2]; exact hf a a1 a2
          · rw [ri_we _ _ _ _ (by omega) (by omega), ri_we1 _ _ _ _ (by decide), ri_we1 _ _ _ _ (by decide), ri_we _ _ _ _ (by omega) (by omega), w32_eq (or32_rng _ _), w32_eq (or32_rng _ _)]
            have := hd i h1 h2
            by_cases ci : i = k
            · subst ci
              rw [if_pos ⟨rfl, rfl⟩, if_pos (by omega), if_pos ⟨rfl, rfl⟩, if_pos (by omega)]
              refine ⟨?_, rfl⟩
              unfold mkw; rw [if_neg c1]
            · by_cases c2 : i < k
              · rw [if_pos c2, if_pos c2] at this
                rw [if_neg (fun q => ci q.2), if_pos (by omega), if_neg (fun q => ci q.2), if_pos (by omega)]; exact this
              · rw [if_neg c2, if_neg c2] at this
                rw [if_neg (fun q => ci q.2), if_neg (by omega), if_neg (fun q => ci q.2), if_neg (by omega)]; exact this) (by omega)
  subst hI1
  refine ⟨I1, ?_, hf1, hd1⟩
  simp only [uX4_note, uX4_note_b5]
  rw [hb]; rfl
theorem bitI_all {d P v : Int} (hd : 0 ≤ d ∧ d < 256) (hP : 0 ≤ P ∧ P ≤ 8) (hv : 0 ≤ v ∧ v < 8) : bitI (or32 d (w32 (shl32 1 P - 1))) v = (if v < P then 1 else bitI d v) ∧ 0 ≤ or32 d (w32 (shl32 1 P - 1)) ∧ or32 d (w32 (shl32 1 P - 1)) < 256 := by
  have p1 : 2 ^ P.toNat ≤ 2 ^ 8 := Nat.pow_le_pow_right (by decide) (by omega)
  have p0 : 1 ≤ 2 ^ P.toNat := Nat.one_le_two_pow
  have e1 : w32 (shl32 1 P - 1) = ((2 ^ P.toNat - 1 : Nat) : Int) := by
    have := shl32_eq (a := 1) (k := P) (by decide) (by omega) (by show 1 * _ < _; omega)
    rw [this, show ((1 : Int).toNat * 2 ^ P.toNat : Nat) = 2 ^ P.toNat from Nat.one_mul _, w32_id (by omega) (by omega)]; omega
  have e2 : or32 d (w32 (shl32 1 P - 1)) = ((d.toNat ||| (2 ^ P.toNat - 1) : Nat) : Int) := by
    rw [e1, or32_pos (b := ((2 ^ P.toNat - 1 : Nat) : Int)) (by omega) (by omega), Int.toNat_natCast]
  have p3 : d.toNat ||| (2 ^ P.toNat - 1) < 2 ^ 8 := Nat.or_lt_two_pow (by omega) (by omega)
  rw [e2]
  refine ⟨?_, by omega, by omega⟩
  rw [bitI_tb (d := ((d.toNat ||| (2 ^ P.toNat - 1) : Nat) : Int)) (by omega) (by omega), bitI_tb (by omega) (by omega), Int.toNat_natCast, Nat.testBit_or, Nat.testBit_two_pow_sub_one]
  by_cases c : v < P
  · rw [if_pos c]; simp [show v.toNat < P.toNat from by omega]
  · rw [if_neg c]; simp [show ¬ v.toNat < P.toNat from by omega]
abbrev okb (S : Int → Int) (c : Int) (n : Nat) (i b : Int) : Prop := ((n : Int) - 1 - i < oc S c 3 → b = fa S c (n - 1 - i) 0) ∧ 0 ≤ b ∧ b < S 0
def HC (S : Int → Int) (c g : Int) (n : Nat) (I : Mi) (t : Nat) : Prop := ∀ i : Int, 0 ≤ i → i < n → ((0 ≤ ri I 54 i ∧ ri I 54 i < 256) ∧ (0 ≤ ri I 55 i ∧ ri I 55 i < 16)) ∧ (∀ b, 0 ≤ b → b < 8 → (bitI (ri I 54 i) b = 1 ↔ ∃ s : Nat, s < t ∧ Gr S c g n (dg (S 1).toNat s) = true ∧ okb S c n i b)) ∧ (∀ b, 0 ≤ b → b < 4 → (bitI (ri I 55 i) b = 1 ↔ ∃ s : Nat, s < t ∧ Gr S c g n (dg (S 1).toNat s) = true ∧ dg (S 1).toNat s i = b))
theorem HC.skip {S : Int → Int} {c g : Int} {n t : Nat} {I I' : Mi} (H : HC S c g n I t) (h1 : Gr S c g n (dg (S 1).toNat t) = false) (h2 : I' 54 = I 54) (h3 : I' 55 = I 55) : HC S c g n I' (t + 1) := by
  intro i q1 q2
  rw [ri_of I I' _ h2, ri_of I I' _ h3]
  obtain ⟨a, b, d⟩ := H i q1 q2
  have e : ∀ p : Nat → Prop, (∃ s : Nat, s < t + 1 ∧ Gr S c g n (dg (S 1).toNat s) = true ∧ p s) ↔ ∃ s : Nat, s < t ∧ Gr S c g n (dg (S 1).toNat s) = true ∧ p s := fun p => by
    constructor
    · rintro ⟨s, h4, h5, h6⟩
      refine ⟨s, ?_, h5, h6⟩
      by_cases cs : s = t
      · subst cs; rw [h1] at h5; cases h5
      · omega
    · rintro ⟨s, h4, h5, h6⟩
      exact ⟨s, by omega, h5, h6⟩
  exact ⟨a, fun x h4 h5 => (b x h4 h5).trans (e fun _ => okb S c n i x).symm, fun x h4 h5 => (d x h4 h5).trans (e fun s => dg (S 1).toNat s i = x).symm⟩
theorem HC.add {S : Int → Int} {c g : Int} {n t : Nat} {I I' : Mi} (v : InvL S) (u : InvC S) (hc : isC S c) (H : HC S c g n I t) (h1 : Gr S c g n (dg (S 1).toNat t) = true) (hm : ∀ i : Int, 0 ≤ i → i < n → isM S (dg (S 1).toNat t i)) (h2 : ∀ i : Int, 0 ≤ i → i < n → ri I' 54 i = or32 (ri I 54 i) (mkw S c n i) ∧ ri I' 55 i = or32 (ri I 55 i) (shl32 1 (dg (S 1).toNat t i))) : HC S c g n I' (t + 1) := by
  intro i q1 q2
  have v0 := v.1
  have v1 := v.2.1
  obtain ⟨⟨a1, a2⟩, b, d⟩ := H i q1 q2
  obtain ⟨e1, e2⟩ := h2 i q1 q2
  have hM := hm i q1 q2
  rw [e1, e2]
  have e : ∀ p : Nat → Prop, (∃ s : Nat, s < t + 1 ∧ Gr S c g n (dg (S 1).toNat s) = true ∧ p s) ↔ (∃ s : Nat, s < t ∧ Gr S c g n (dg (S 1).toNat s) = true ∧ p s) ∨ p t := fun p => by
    constructor
    · rintro ⟨s, h4, h5, h6⟩
      by_cases cs : s = t
      · subst cs; exact .inr h6
      · exact .inl ⟨s, by omega, h5, h6⟩
    · rintro (⟨s, h4, h5, h6⟩ | h6)
      · exact ⟨s, by omega, h5, h6⟩
      · exact ⟨t, by omega, h1, h6⟩
  have f2 := fun b (hb1 : 0 ≤ b) (hb2 : b < 4) => bitI_or (d := ri I 55 i) (w := dg (S 1).toNat t i) (v := b) (n := 4) (by omega) (by omega) (by omega) (by decide) (by omega) (by omega)
  have f3 := (f2 0 (by decide) (by decide)).2
  have f4 : ∀ b, 0 ≤ b → b < 8 → bitI (or32 (ri I 54 i) (mkw S c n i)) b = (if okb S c n i b ∨ bitI (ri I 54 i) b = 1 then 1 else 0) ∧ 0 ≤ or32 (ri I 54 i) (mkw S c n i) ∧ or32 (ri I 54 i) (mkw S c n i) < 256 := fun b hb1 hb2 => by
    have z := bitI_01 (d := ri I 54 i) (w := b) (by omega) (by omega)
    unfold mkw okb
    by_cases c1 : (n : Int) - 1 - i < oc S c 3
    · rw [if_pos c1]
      have hw := (u.2.2.2.2.2.2.2.2.1 c (n - 1 - i) hc (by omega) c1).1
      have := bitI_or (d := ri I 54 i) (w := fa S c (n - 1 - i) 0) (v := b) (n := 8) (by omega) (by omega) (by omega) (by decide) (by omega) (by omega)
      refine ⟨?_, this.2.1, by omega⟩
      rw [this.1]
      by_cases c2 : b = fa S c (n - 1 - i) 0
      · rw [if_pos c2, if_pos (.inl ⟨fun _ => c2, by omega, by omega⟩)]
      · rw [if_neg c2]
        rcases z with z | z
        · rw [z, if_neg (fun q => by rcases q with q | q; exact c2 (q.1 c1); omega)]
        · rw [z, if_pos (.inr rfl)]
    · rw [if_neg c1]
      have := bitI_all (d := ri I 54 i) (P := S 0) (v := b) a1 (by omega) (by omega)
      refine ⟨?_, this.2⟩
      rw [this.1]
      by_cases c2 : b < S 0
      · rw [if_pos c2, if_pos (.inl ⟨fun q => absurd q c1, by omega, c2⟩)]
      · rw [if_neg c2]
        rcases z with z | z
        · rw [z, if_neg (fun q => by rcases q with q | q; exact c2 q.2.2; omega)]
        · rw [z, if_pos (.inr rfl)]
  have f5 := (f4 0 (by decide) (by decide)).2
  refine ⟨by omega, fun b2 hb1 hb2 => ?_, fun b2 hb1 hb2 => ?_⟩
  · rw [(f4 b2 hb1 hb2).1, e fun _ => okb S c n i b2, ← b b2 hb1 hb2]
    split
    · rename_i q; exact ⟨fun _ => q.symm, fun _ => rfl⟩
    · rename_i q; exact ⟨fun z => by omega, fun z => absurd z.symm q⟩
  · rw [(f2 b2 hb1 hb2).1, e fun s => dg (S 1).toNat s i = b2, ← d b2 hb1 hb2]
    split
    · rename_i q; exact ⟨fun _ => .inr q.symm, fun _ => rfl⟩
    · rename_i q; exact ⟨fun z => .inl z, fun z => z.elim id (fun z => absurd z.symm q)⟩
