/-- more bounds of the reference's state: grains, strokes a coin has had, depths, what strokes tell, takes, blurs -/
def NY (N : Nat → Int32) : Prop :=
  (∀ q : Int, 0 ≤ q → q < gn N 108 → (0 ≤ gn N (120 + 32 * q + 0).toNat ∧ gn N (120 + 32 * q + 0).toNat ≤ 9999) ∧ (0 ≤ gn N (120 + 32 * q + 2).toNat ∧ gn N (120 + 32 * q + 2).toNat ≤ 9) ∧
    (∀ i : Int, 0 ≤ i → i < gn N (120 + 32 * q + 3).toNat → 1 ≤ gn N (120 + 32 * q + 4 + 3 * i + 1).toNat ∧ gn N (120 + 32 * q + 4 + 3 * i + 1).toNat ≤ 9) ∧
    (∀ i : Int, 0 ≤ i → i + 1 < gn N (120 + 32 * q + 3).toNat → gn N (120 + 32 * q + 4 + 3 * (i + 1) + 1).toNat < gn N (120 + 32 * q + 4 + 3 * i + 1).toNat)) ∧
  (∀ k : Int, 0 ≤ k → k < gn N 112 → (0 ≤ gn N (1400 + 6 * k).toNat ∧ gn N (1400 + 6 * k).toNat < gn N 108) ∧ (0 ≤ gn N (1400 + 6 * k + 5).toNat ∧ gn N (1400 + 6 * k + 5).toNat ≤ 1)) ∧
  (∀ k : Int, 44 ≤ k → k < 108 → 0 ≤ gn N k.toNat ∧ gn N k.toNat ≤ 201) ∧
  (∀ k : Int, 0 ≤ k → k < 4 → k < gn N 1 → 1 ≤ gn N (32 + 3 * k + 1).toNat)
theorem NY_cg {N N' : Nat → Int32} (key : ∀ k : Nat, k ≠ 4 → k ≠ 5 → k ≠ 6 → k ≠ 110 → k ≠ 111 → gn N' k = gn N k) (h : NY N) : NY N' := by
  obtain ⟨h1, h2, h3, h4⟩ := h
  have k1 : gn N' 1 = gn N 1 := key 1 (by decide) (by decide) (by decide) (by decide) (by decide)
  have k108 : gn N' 108 = gn N 108 := key 108 (by decide) (by decide) (by decide) (by decide) (by decide)
  have k112 : gn N' 112 = gn N 112 := key 112 (by decide) (by decide) (by decide) (by decide) (by decide)
  refine ⟨fun q q0 q1 => ?_, fun k q0 q1 => ?_, fun k q0 q1 => ?_, fun k q0 q4 q1 => ?_⟩
  · rw [k108] at q1
    have e0 := key (120 + 32 * q + 0).toNat (by omega) (by omega) (by omega) (by omega) (by omega)
    have e2 := key (120 + 32 * q + 2).toNat (by omega) (by omega) (by omega) (by omega) (by omega)
    have e3 := key (120 + 32 * q + 3).toNat (by omega) (by omega) (by omega) (by omega) (by omega)
    rw [e0, e2, e3]
    obtain ⟨a1, a2, a3, a4⟩ := h1 q q0 q1
    refine ⟨a1, a2, fun i i0 i1 => ?_, fun i i0 i1 => ?_⟩
    · rw [key (120 + 32 * q + 4 + 3 * i + 1).toNat (by omega) (by omega) (by omega) (by omega) (by omega)]; exact a3 i i0 i1
    · rw [key (120 + 32 * q + 4 + 3 * i + 1).toNat (by omega) (by omega) (by omega) (by omega) (by omega), key (120 + 32 * q + 4 + 3 * (i + 1) + 1).toNat (by omega) (by omega) (by omega) (by omega) (by omega)]; exact a4 i i0 i1
  · rw [k112] at q1
    rw [k108, key (1400 + 6 * k).toNat (by omega) (by omega) (by omega) (by omega) (by omega), key (1400 + 6 * k + 5).toNat (by omega) (by omega) (by omega) (by omega) (by omega)]
    exact h2 k q0 q1
  · by_cases hk : k = 110 ∨ k = 111
    · omega
    · rw [key k.toNat (by omega) (by omega) (by omega) (by omega) (by omega)]; exact h3 k q0 q1
  · rw [k1] at q1
    rw [key (32 + 3 * k + 1).toNat (by omega) (by omega) (by omega) (by omega) (by omega)]; exact h4 k q0 q4 q1
theorem nyX10_lay {I : Mi} {J : Mj} {r0 : Int} {I0 : Mi} {J0 : Mj} (h : fX10_lay (I, J) = (r0, I0, J0)) (hy : NY (I 59)) : NY (I0 59) := NY_cg (fun k h1 h2 h3 h4 h5 => by
    unfold gn; rw [frX10_lay h 59 k ⟨by omega, by omega, by omega, by omega, by omega, by omega⟩]) hy
theorem h59 {P : (Nat → Int32) → Prop} {A B : Nat → Int32} (h : A = B) (hp : P B) : P A := h ▸ hp
section NYY
variable {I : Mi} {q i : Int}
theorem ny_g (h : NY (I 59)) (h0 : 0 ≤ q) (h1 : q < gi I 59 108) : 0 ≤ gi I 59 (120 + 32 * q + 0).toNat ∧ gi I 59 (120 + 32 * q + 0).toNat ≤ 9999 := (h.1 q h0 h1).1
theorem ny_h (h : NY (I 59)) (h0 : 0 ≤ q) (h1 : q < gi I 59 108) : 0 ≤ gi I 59 (120 + 32 * q + 2).toNat ∧ gi I 59 (120 + 32 * q + 2).toNat ≤ 9 := (h.1 q h0 h1).2.1
theorem ny_d (h : NY (I 59)) (h0 : 0 ≤ q) (h1 : q < gi I 59 108) (h2 : 0 ≤ i) (h3 : i < gi I 59 (120 + 32 * q + 3).toNat) : 1 ≤ gi I 59 (120 + 32 * q + 4 + 3 * i + 1).toNat ∧ gi I 59 (120 + 32 * q + 4 + 3 * i + 1).toNat ≤ 9 := (h.1 q h0 h1).2.2.1 i h2 h3
theorem ny_m (h : NY (I 59)) (h0 : 0 ≤ q) (h1 : q < gi I 59 108) (h2 : 0 ≤ i) (h3 : i + 1 < gi I 59 (120 + 32 * q + 3).toNat) : gi I 59 (120 + 32 * q + 4 + 3 * (i + 1) + 1).toNat < gi I 59 (120 + 32 * q + 4 + 3 * i + 1).toNat := (h.1 q h0 h1).2.2.2 i h2 h3
theorem ny_sc (h : NY (I 59)) (h0 : 0 ≤ q) (h1 : q < gi I 59 112) : 0 ≤ gi I 59 (1400 + 6 * q).toNat ∧ gi I 59 (1400 + 6 * q).toNat < gi I 59 108 := (h.2.1 q h0 h1).1
theorem ny_sf (h : NY (I 59)) (h0 : 0 ≤ q) (h1 : q < gi I 59 112) : 0 ≤ gi I 59 (1400 + 6 * q + 5).toNat ∧ gi I 59 (1400 + 6 * q + 5).toNat ≤ 1 := (h.2.1 q h0 h1).2
theorem ny_t (h : NY (I 59)) (h0 : 44 ≤ q) (h1 : q < 108) : 0 ≤ gi I 59 q.toNat ∧ gi I 59 q.toNat ≤ 201 := h.2.2.1 q h0 h1
theorem ny_b (h : NY (I 59)) (h0 : 0 ≤ q) (h4 : q < 4) (h1 : q < gi I 59 1) : 1 ≤ gi I 59 (32 + 3 * q + 1).toNat := h.2.2.2 q h0 h4 h1
theorem ny_mm (h : NY (I 59)) (h0 : 0 ≤ q) (h1 : q < gi I 59 108) (h2 : 0 ≤ i) (n : Nat) : i + n < gi I 59 (120 + 32 * q + 3).toNat → gi I 59 (120 + 32 * q + 4 + 3 * (i + n) + 1).toNat + n ≤ gi I 59 (120 + 32 * q + 4 + 3 * i + 1).toNat := by
  induction n with
  | zero => intro h3; rw [show i + ((0 : Nat) : Int) = i by omega]; omega
  | succ n ih =>
    intro h3
    have h4 := ih (by omega)
    have h5 := ny_m (i := i + n) h h0 h1 (by omega) (by omega)
    rw [show i + ((n + 1 : Nat) : Int) = i + n + 1 by omega]
    omega
end NYY
/-- how many faces are left behind a stroke -/
def lfc (N : Nat → Int32) (b bl : Int) : Nat → Int → Int
  | 0, i => i
  | n + 1, i => if bl < gn N (b + 4 + 3 * i + 1).toNat then lfc N b bl n (i + 1) else i
def lf (N : Nat → Int32) (q t : Int) : Int := lfc N (120 + 32 * q) (gn N (32 + 3 * t + 1).toNat) (gn N (120 + 32 * q + 3).toNat).toNat 0
theorem lfc_sp (N : Nat → Int32) (b bl : Int) : ∀ (n : Nat) (i : Int), (i ≤ lfc N b bl n i ∧ lfc N b bl n i ≤ i + n) ∧ (∀ j, i ≤ j → j < lfc N b bl n i → bl < gn N (b + 4 + 3 * j + 1).toNat) ∧ (lfc N b bl n i < i + n → gn N (b + 4 + 3 * lfc N b bl n i + 1).toNat ≤ bl) := by
  intro n
  induction n with
  | zero => intro i; refine ⟨⟨Int.le_refl _, by simp [lfc]⟩, fun j h1 h2 => ?_, fun h => ?_⟩ <;> (simp only [lfc] at *; omega)
  | succ n ih =>
    intro i
    unfold lfc
    by_cases h : bl < gn N (b + 4 + 3 * i + 1).toNat
    · rw [if_pos h]
      obtain ⟨⟨a1, a2⟩, a3, a4⟩ := ih (i + 1)
      refine ⟨⟨by omega, by omega⟩, fun j h1 h2 => ?_, fun h1 => a4 (by omega)⟩
      by_cases hj : j = i
      · rw [hj]; exact h
      · exact a3 j (by omega) h2
    · rw [if_neg h]
      exact ⟨⟨Int.le_refl _, by omega⟩, fun j h1 h2 => by omega, fun _ => by omega⟩
theorem lf_sp {I : Mi} {q t : Int} (hn : NX (I 59)) (hy : NY (I 59)) (h0 : 0 ≤ q) (h1 : q < gi I 59 108) (t0 : 0 ≤ t) (t1 : t < gi I 59 1) : (0 ≤ lf (I 59) q t ∧ lf (I 59) q t ≤ 8 ∧ lf (I 59) q t ≤ gi I 59 (120 + 32 * q + 3).toNat) ∧ (∀ i : Int, 0 ≤ i → i < lf (I 59) q t → gi I 59 (32 + 3 * t + 1).toNat < gi I 59 (120 + 32 * q + 4 + 3 * i + 1).toNat) ∧ (∀ i : Int, lf (I 59) q t ≤ i → i < gi I 59 (120 + 32 * q + 3).toNat → gi I 59 (120 + 32 * q + 4 + 3 * i + 1).toNat ≤ gi I 59 (32 + 3 * t + 1).toNat) := by
  have hla := nx_la hn h0 h1
  have hb := ny_b hy t0 (by have := nx_m hn; omega) t1
  obtain ⟨⟨a1, a2⟩, a3, a4⟩ := lfc_sp (I 59) (120 + 32 * q) (gn (I 59) (32 + 3 * t + 1).toNat) (gn (I 59) (120 + 32 * q + 3).toNat).toNat 0
  have hq : lf (I 59) q t = lfc (I 59) (120 + 32 * q) (gn (I 59) (32 + 3 * t + 1).toNat) (gn (I 59) (120 + 32 * q + 3).toNat).toNat 0 := rfl
  rw [← hq] at a1 a2 a3 a4
  simp only [← gi_gn] at a2 a3 a4
  have h8 : lf (I 59) q t ≤ 8 := by
    rcases Int.lt_or_le (lf (I 59) q t) 9 with h | h
    · omega
    · have c1 := a3 8 (by decide) (by omega)
      have c2 := ny_mm (i := 0) hy h0 h1 (Int.le_refl 0) 8 (by omega)
      have c3 := ny_d (i := 0) hy h0 h1 (Int.le_refl 0) (by omega)
      rw [show (0 : Int) + ((8 : Nat) : Int) = 8 by decide] at c2
      omega
  refine ⟨⟨a1, h8, by omega⟩, fun i i0 i1 => a3 i i0 i1, fun i i0 i1 => ?_⟩
  have c1 := a4 (by omega)
  have c2 := ny_mm (i := lf (I 59) q t) hy h0 h1 a1 (i - lf (I 59) q t).toNat (by omega)
  rw [show lf (I 59) q t + ((i - lf (I 59) q t).toNat : Int) = i by omega] at c2
  omega
theorem skM_fr (q w t sl z L : Int) (I : Mi) (aq kq : Nat) (h : aq ≠ 59) : skM q w t sl z L I aq kq = I aq kq := by
  unfold skM
  simp only [wi_ap, h, false_and, if_false]
  rw [sf_na _ h, dr_na _ h]
  simp only [wi_ap, h, false_and, if_false]

theorem qX10_strikeN {G : Gx} {σ : State} (hC : Cz G σ) {sh : Sh} {I : Mi} {J : Mj} (q w t sl z : Int) (hS : St sh) (hn : NX (I 59)) (hy : NY (I 59)) (hq : 0 ≤ q ∧ q < gi I 59 108) (ht : 0 ≤ t ∧ t < gi I 59 1) (hss : gi I 59 112 < 500) : Ce G σ 2 yX10_strike cX10_strike 13 none [.ref (G.2.2 + 57), .int (iv (q)), .int (iv (w)), .int (iv (t)), .int (iv (sl)), .int (iv (z))] (sh, I, J) 0 0 none (sh, skM q w t sl z (lf (I 59) q t) I, J) := by
  have hc := nx_c hn
  have hm := nx_m hn
  have hs := nx_s hn
  obtain ⟨a1, a2, a3⟩ := lf_sp hn hy hq.1 hq.2 ht.1 ht.2
  exact qX10_strike hC q w t sl z _ hS (by omega) (by omega) (by have := nx_la hn hq.1 hq.2; omega) a1 (by omega) (nx_ls hn ht.1 (by omega)).2 (fun i i0 i1 => by have := ny_d hy hq.1 hq.2 i0 i1; omega) a2 a3
theorem come_t {w : Int} {I : Mi} {J : Mj} {r0 : Int} {I0 : Mi} {J0 : Mj} (h : fX10_come w (I, J) = (r0, I0, J0)) (ht : 0 ≤ gi I 57 2 ∧ gi I 57 2 ≤ 736) : gi I0 57 2 = gi I 57 2 + 4 := by
  unfold fX10_come at h
  simp only [Prod.mk.injEq] at h
  obtain ⟨-, hI, -⟩ := h
  rw [← hI, gi_wi_eq _ _ _ (by omega)]
  omega
theorem orI_01 {a b : Int} (ha : 0 ≤ a ∧ a ≤ 1) (hb : 0 ≤ b ∧ b ≤ 1) : 0 ≤ orI a b ∧ orI a b ≤ 1 := by
  rcases (show a = 0 ∨ a = 1 by omega) with rfl | rfl <;> rcases (show b = 0 ∨ b = 1 by omega) with rfl | rfl <;> decide
def orf (f : Int → Int) : Nat → Int
  | 0 => 0
  | n + 1 => orI (orf f n) (f n)
theorem orf_s (f : Int → Int) {c : Int} (h : 0 ≤ c) : orf f (c + 1).toNat = orI (orf f c.toNat) (f c) := by
  obtain ⟨n, rfl⟩ := Int.eq_ofNat_of_zero_le h
  rfl
noncomputable def gSF (q : Int) (N : Nat → Int32) : Int := orf (fun i => gX10_faceFalse q i N) (gn N (120 + 32 * q + 3).toNat).toNat

noncomputable def fX10_feed (w1 : Int) (w2 : Int) (w3 : Int) (w4 : Int) (w5 : Int) (S : Mi × Mj) : Int × Mi × Mj :=
  match S with
  | (I, J) =>
    if ((gi I 57 2) + 20) ≤ 740 then
      match fX10_come w1 ((wi I 57 0 0), J) with
      | (r2, I3, J4) =>
        match fX10_come w2 (I3, J4) with
        | (r6, I7, J8) =>
          match fX10_come w3 (I7, J8) with
          | (r10, I11, J12) =>
            match fX10_come w4 (I11, J12) with
            | (r14, I15, J16) =>
              match fX10_come w5 (I15, J16) with
              | (r18, I19, J20) =>
                (gi I19 57 2, I19, J20)
    else
      (-1, (wi I 57 0 0), J)
theorem frX10_feed {w1 : Int} {w2 : Int} {w3 : Int} {w4 : Int} {w5 : Int} {S : Mi × Mj} {r0 : Int} {I0 : Mi} {J0 : Mj} (h : fX10_feed w1 w2 w3 w4 w5 S = (r0, I0, J0)) (aq kq : Nat) (haq : aq ≠ 58 ∧ ¬ (aq = 57 ∧ kq = 0) ∧ ¬ (aq = 57 ∧ kq = 2)) : I0 aq kq = S.1 aq kq := by
  obtain ⟨I, J⟩ := S
  unfold fX10_feed at h
  try simp only at h
  by_cases hq1 : ((gi I 57 2) + 20) ≤ 740
  · simp only [if_pos hq1] at h
    obtain ⟨⟨r2, I3, J4⟩, hq2⟩ : ∃ q, q = fX10_come w1 ((wi I 57 0 0), J) := ⟨_, rfl⟩
    rw [← hq2] at h; try simp only at h
    obtain ⟨⟨r6, I7, J8⟩, hq3⟩ : ∃ q, q = fX10_come w2 (I3, J4) := ⟨_, rfl⟩
    rw [← hq3] at h; try simp only at h
    obtain ⟨⟨r10, I11, J12⟩, hq4⟩ : ∃ q, q = fX10_come w3 (I7, J8) := ⟨_, rfl⟩
    rw [← hq4] at h; try simp only at h
    obtain ⟨⟨r14, I15, J16⟩, hq5⟩ : ∃ q, q = fX10_come w4 (I11, J12) := ⟨_, rfl⟩
    rw [← hq5] at h; try simp only at h
    obtain ⟨⟨r18, I19, J20⟩, hq6⟩ : ∃ q, q = fX10_come w5 (I15, J16) := ⟨_, rfl⟩
    rw [← hq6] at h; try simp only at h
    simp only [Prod.mk.injEq] at h
    obtain ⟨-, hI, hJ⟩ := h
    exact (congrFun (congrFun hI aq) kq).symm.trans (Eq.trans (frX10_come hq6.symm aq kq ⟨haq.1, haq.2.2⟩) (Eq.trans (frX10_come hq5.symm aq kq ⟨haq.1, haq.2.2⟩) (Eq.trans (frX10_come hq4.symm aq kq ⟨haq.1, haq.2.2⟩) (Eq.trans (frX10_come hq3.symm aq kq ⟨haq.1, haq.2.2⟩) (Eq.trans (frX10_come hq2.symm aq kq ⟨haq.1, haq.2.2⟩) (Eq.trans (wi_nc _ _ haq.2.1) rfl))))))
  · simp only [if_neg hq1] at h
    simp only [Prod.mk.injEq] at h
    obtain ⟨-, hI, hJ⟩ := h
    exact (congrFun (congrFun hI aq) kq).symm.trans (Eq.trans (wi_nc _ _ haq.2.1) rfl)
theorem fjX10_feed {w1 : Int} {w2 : Int} {w3 : Int} {w4 : Int} {w5 : Int} {S : Mi × Mj} {r0 : Int} {I0 : Mi} {J0 : Mj} (h : fX10_feed w1 w2 w3 w4 w5 S = (r0, I0, J0)) (aq kq : Nat) (haq : True) : J0 aq kq = S.2 aq kq := by
  obtain ⟨I, J⟩ := S
  unfold fX10_feed at h
  try simp only at h
  by_cases hq1 : ((gi I 57 2) + 20) ≤ 740
  · simp only [if_pos hq1] at h
    obtain ⟨⟨r2, I3, J4⟩, hq2⟩ : ∃ q, q = fX10_come w1 ((wi I 57 0 0), J) := ⟨_, rfl⟩
    rw [← hq2] at h; try simp only at h
    obtain ⟨⟨r6, I7, J8⟩, hq3⟩ : ∃ q, q = fX10_come w2 (I3, J4) := ⟨_, rfl⟩
    rw [← hq3] at h; try simp only at h
    obtain ⟨⟨r10, I11, J12⟩, hq4⟩ : ∃ q, q = fX10_come w3 (I7, J8) := ⟨_, rfl⟩
    rw [← hq4] at h; try simp only at h
    obtain ⟨⟨r14, I15, J16⟩, hq5⟩ : ∃ q, q = fX10_come w4 (I11, J12) := ⟨_, rfl⟩
    rw [← hq5] at h; try simp only at h
    obtain ⟨⟨r18, I19, J20⟩, hq6⟩ : ∃ q, q = fX10_come w5 (I15, J16) := ⟨_, rfl⟩
    rw [← hq6] at h; try simp only at h
    simp only [Prod.mk.injEq] at h
    obtain ⟨-, hI, hJ⟩ := h
    exact (congrFun (congrFun hJ aq) kq).symm.trans (Eq.trans (fjX10_come hq6.symm aq kq trivial) (Eq.trans (fjX10_come hq5.symm aq kq trivial) (Eq.trans (fjX10_come hq4.symm aq kq trivial) (Eq.trans (fjX10_come hq3.symm aq kq trivial) (Eq.trans (fjX10_come hq2.symm aq kq trivial) rfl)))))
  · simp only [if_neg hq1] at h
    simp only [Prod.mk.injEq] at h
    obtain ⟨-, hI, hJ⟩ := h
    exact (congrFun (congrFun hJ aq) kq).symm.trans rfl
set_option maxHeartbeats 4000000 in
set_option maxRecDepth 100000 in
theorem qX10_feed {G : Gx} {σ : State} (hC : Cz G σ) {sh : Sh} {I : Mi} {J : Mj} (w1 w2 w3 w4 w5 : Int) (hS : St sh) (rw1 : -2147483648 ≤ w1 ∧ w1 < 2147483648) (rw2 : -2147483648 ≤ w2 ∧ w2 < 2147483648) (rw3 : -2147483648 ≤ w3 ∧ w3 < 2147483648) (rw4 : -2147483648 ≤ w4 ∧ w4 < 2147483648) (rw5 : -2147483648 ≤ w5 ∧ w5 < 2147483648) (ht : 0 ≤ gi I 57 2 ∧ gi I 57 2 ≤ 740) : Ce G σ 2 yX10_feed cX10_feed 6 (some .int) [.ref (G.2.2 + 57), .int (iv (w1)), .int (iv (w2)), .int (iv (w3)), .int (iv (w4)), .int (iv (w5))] (sh, I, J) 0 0 (some (.int (iv ((fX10_feed w1 w2 w3 w4 w5 (I, J)).1)))) (sh, (fX10_feed w1 w2 w3 w4 w5 (I, J)).2.1, (fX10_feed w1 w2 w3 w4 w5 (I, J)).2.2) := by
  refine Ct.of hC (by decide +kernel) (Nat.le_of_ble_eq_true rfl) ?_
  intro p l e R s m args below meth c C
  show Jz G σ p l e R s m args below meth c 6 0 0 (Qx (some (.int (iv ((fX10_feed w1 w2 w3 w4 w5 (I, J)).1)))) (sh, (fX10_feed w1 w2 w3 w4 w5 (I, J)).2.1, (fX10_feed w1 w2 w3 w4 w5 (I, J)).2.2)) (sh, I, J) 0 0 0 [(0, .ref (G.2.2 + 57)), (1, .int (iv (w1))), (2, .int (iv (w2))), (3, .int (iv (w3))), (4, .int (iv (w4))), (5, .int (iv (w5)))] []
  refine z_aload_n C dX10_feed_0 0 rfl ?_
  refine z_iconst C dX10_feed_1 ?_
  refine z_putI C dX10_feed_2 fX10_83 rfl rfl (kd_57 hS) rfl rfl ?_
  refine z_aload_n C dX10_feed_5 0 rfl ?_
  refine z_getI C dX10_feed_6 fX10_86 rfl (kd_57 hS) ?_
  refine z_eqi (gi I 57 2) (gi_wi_nk _ _ _ (by decide)) ?_
  refine z_bipush C dX10_feed_9 (by decide) ?_
  refine z_iadd C dX10_feed_11 ?_
  refine z_sipush C dX10_feed_12 (by decide) ?_
  refine z_icmp_le 20 C dX10_feed_15 (by decide) (by have := gi_rng I 57 2; omega) (by decide) (fun h1 => ?_) (fun h1 => ?_)
  ·
    have hz0 : gi (wi I 57 0 0) 57 2 = gi I 57 2 := gi_wi_nk _ _ _ (by decide)
    refine z_aload_n C dX10_feed_20 0 rfl ?_
    refine z_iload_n C dX10_feed_21 1 rfl ?_
    refine z_cVvF (st := []) (F := fX10_come w1 ((wi I 57 0 0), J)) C dX10_feed_22 mX10_89 (kd_57 hS) (qX10_come hC w1 hS rw1 (by have : gi (wi I 57 0 0) 57 2 = gi I 57 2 := (gi_wi_nk _ _ _ (by decide)); have := gi_rng I 57 2; have := gi_rng (wi I 57 0 0) 57 2; omega)) rfl rfl (Nat.le_of_ble_eq_true rfl) (by decide) (fun r2 I3 J4 hT5 => ?_)
    have hx22 := come_t hT5 (by omega)
    refine z_aload_n C dX10_feed_25 0 rfl ?_
    refine z_iload_n C dX10_feed_26 2 rfl ?_
    refine z_cVvF (st := []) (F := fX10_come w2 (I3, J4)) C dX10_feed_27 mX10_89 (kd_57 hS) (qX10_come hC w2 hS rw2 (by have := gi_rng I3 57 2; omega)) rfl rfl (Nat.le_of_ble_eq_true rfl) (by decide) (fun r6 I7 J8 hT9 => ?_)
    have hx27 := come_t hT9 (by omega)
    refine z_aload_n C dX10_feed_30 0 rfl ?_
    refine z_iload_n C dX10_feed_31 3 rfl ?_
    refine z_cVvF (st := []) (F := fX10_come w3 (I7, J8)) C dX10_feed_32 mX10_89 (kd_57 hS) (qX10_come hC w3 hS rw3 (by have := gi_rng I7 57 2; omega)) rfl rfl (Nat.le_of_ble_eq_true rfl) (by decide) (fun r10 I11 J12 hT13 => ?_)
    have hx32 := come_t hT13 (by omega)
    refine z_aload_n C dX10_feed_35 0 rfl ?_
    refine z_iload C dX10_feed_36 4 rfl ?_
    refine z_cVvF (st := []) (F := fX10_come w4 (I11, J12)) C dX10_feed_38 mX10_89 (kd_57 hS) (qX10_come hC w4 hS rw4 (by have := gi_rng I11 57 2; omega)) rfl rfl (Nat.le_of_ble_eq_true rfl) (by decide) (fun r14 I15 J16 hT17 => ?_)
    have hx38 := come_t hT17 (by omega)
    refine z_aload_n C dX10_feed_41 0 rfl ?_
    refine z_iload C dX10_feed_42 5 rfl ?_
    refine z_cVvF (st := []) (F := fX10_come w5 (I15, J16)) C dX10_feed_44 mX10_89 (kd_57 hS) (qX10_come hC w5 hS rw5 (by have := gi_rng I15 57 2; omega)) rfl rfl (Nat.le_of_ble_eq_true rfl) (by decide) (fun r18 I19 J20 hT21 => ?_)
    have hx44 := come_t hT21 (by omega)
    refine z_aload_n C dX10_feed_47 0 rfl ?_
    refine z_getI C dX10_feed_48 fX10_86 rfl (kd_57 hS) ?_
    have hf22 : fX10_feed w1 w2 w3 w4 w5 (I, J) = (gi I19 57 2, I19, J20) := (by simp only [fX10_feed, if_pos h1, hT5, hT9, hT13, hT17, hT21])
    exact z_ireturnx C dX10_feed_51 (by rw [hf22]) (by rw [hf22])
  ·
    refine z_iconst C dX10_feed_18 ?_
    have hf23 : fX10_feed w1 w2 w3 w4 w5 (I, J) = (-1, (wi I 57 0 0), J) := (by simp only [fX10_feed, if_neg h1])
    exact z_ireturnx C dX10_feed_19 (by rw [hf23]) (by rw [hf23])

noncomputable def fX10_keepSale (w1 : Int) (w2 : Int) (w3 : Int) (w4 : Int) (w5 : Int) (w6 : Int) (S : Mi × Mj) : Int × Mi × Mj :=
  match S with
  | (I, J) =>
    match 4400 + (7 * (gi I 59 113)) with
    | b =>
      (0, (wi (wi (wi (wi (wi (wi (wi (wi I 59 ((b).toNat) w1) 59 ((b + 1).toNat) w2) 59 ((b + 2).toNat) w3) 59 ((b + 3).toNat) w4) 59 ((b + 4).toNat) (gi I 59 109)) 59 ((b + 5).toNat) w5) 59 ((b + 6).toNat) w6) 59 113 ((gi I 59 113) + 1)), J)
theorem frX10_keepSale {w1 : Int} {w2 : Int} {w3 : Int} {w4 : Int} {w5 : Int} {w6 : Int} {S : Mi × Mj} {r0 : Int} {I0 : Mi} {J0 : Mj} (h : fX10_keepSale w1 w2 w3 w4 w5 w6 S = (r0, I0, J0)) (aq kq : Nat) (haq : aq ≠ 59) : I0 aq kq = S.1 aq kq := by
  obtain ⟨I, J⟩ := S
  unfold fX10_keepSale at h
  try simp only at h
  obtain ⟨b, hq1⟩ : ∃ q, q = 4400 + (7 * (gi I 59 113)) := ⟨_, rfl⟩
  try rw [← hq1] at h
  try simp only at h
  simp only [Prod.mk.injEq] at h
  obtain ⟨-, hI, hJ⟩ := h
  exact (congrFun (congrFun hI aq) kq).symm.trans (Eq.trans (wi_nc _ _ (fun q => haq q.1)) (Eq.trans (wi_nc _ _ (fun q => haq q.1)) (Eq.trans (wi_nc _ _ (fun q => haq q.1)) (Eq.trans (wi_nc _ _ (fun q => haq q.1)) (Eq.trans (wi_nc _ _ (fun q => haq q.1)) (Eq.trans (wi_nc _ _ (fun q => haq q.1)) (Eq.trans (wi_nc _ _ (fun q => haq q.1)) (Eq.trans (wi_nc _ _ (fun q => haq q.1)) rfl))))))))
theorem fjX10_keepSale {w1 : Int} {w2 : Int} {w3 : Int} {w4 : Int} {w5 : Int} {w6 : Int} {S : Mi × Mj} {r0 : Int} {I0 : Mi} {J0 : Mj} (h : fX10_keepSale w1 w2 w3 w4 w5 w6 S = (r0, I0, J0)) (aq kq : Nat) (haq : True) : J0 aq kq = S.2 aq kq := by
  obtain ⟨I, J⟩ := S
  unfold fX10_keepSale at h
  try simp only at h
  obtain ⟨b, hq1⟩ : ∃ q, q = 4400 + (7 * (gi I 59 113)) := ⟨_, rfl⟩
  try rw [← hq1] at h
  try simp only at h
  simp only [Prod.mk.injEq] at h
  obtain ⟨-, hI, hJ⟩ := h
  exact (congrFun (congrFun hJ aq) kq).symm.trans rfl
set_option maxHeartbeats 4000000 in
set_option maxRecDepth 100000 in
theorem qX10_keepSale {G : Gx} {σ : State} (hC : Cz G σ) {sh : Sh} {I : Mi} {J : Mj} (w1 w2 w3 w4 w5 w6 : Int) (hS : St sh) (hs : 0 ≤ gi I 59 113 ∧ gi I 59 113 < 500) : Ce G σ 1 yX10_keepSale cX10_keepSale 8 none [.ref (G.2.2 + 57), .int (iv (w1)), .int (iv (w2)), .int (iv (w3)), .int (iv (w4)), .int (iv (w5)), .int (iv (w6))] (sh, I, J) 0 0 none (sh, (fX10_keepSale w1 w2 w3 w4 w5 w6 (I, J)).2.1, (fX10_keepSale w1 w2 w3 w4 w5 w6 (I, J)).2.2) := by
  refine Ct.of hC (by decide +kernel) (Nat.le_of_ble_eq_true rfl) ?_
  intro p l e R s m args below meth c C
  show Jz G σ p l e R s m args below meth c 8 0 0 (Qx none (sh, (fX10_keepSale w1 w2 w3 w4 w5 w6 (I, J)).2.1, (fX10_keepSale w1 w2 w3 w4 w5 w6 (I, J)).2.2)) (sh, I, J) 0 0 0 [(0, .ref (G.2.2 + 57)), (1, .int (iv (w1))), (2, .int (iv (w2))), (3, .int (iv (w3))), (4, .int (iv (w4))), (5, .int (iv (w5))), (6, .int (iv (w6)))] []
  refine z_sipush C dX10_keepSale_0 (by decide) ?_
  refine z_bipush C dX10_keepSale_3 (by decide) ?_
  refine z_aload_n C dX10_keepSale_5 0 rfl ?_
  refine z_getR C dX10_keepSale_6 fX10_13 rfl (kd_57 hS) (r_57_14 hS) ?_
  refine z_bipush C dX10_keepSale_9 (by decide) ?_
  refine z_iald (q := 113) C dX10_keepSale_11 (ka_59 hS) rfl (by decide) ?_
  refine z_imul C dX10_keepSale_12 ?_
  refine z_iadd C dX10_keepSale_13 ?_
  refine z_nami (fun b hb => ?_)
  refine z_istore (lv' := [(0, .ref (G.2.2 + 57)), (1, .int (iv (w1))), (2, .int (iv (w2))), (3, .int (iv (w3))), (4, .int (iv (w4))), (5, .int (iv (w5))), (6, .int (iv (w6))), (7, .int (iv (b)))]) C dX10_keepSale_14 (by decide) [1, 2, 3, 4, 5, 6, 7, 0] rfl ?_
  refine z_aload_n C dX10_keepSale_16 0 rfl ?_
  refine z_getR C dX10_keepSale_17 fX10_13 rfl (kd_57 hS) (r_57_14 hS) ?_
  refine z_iload C dX10_keepSale_20 7 rfl ?_
  refine z_iload_n C dX10_keepSale_22 1 rfl ?_
  refine z_iast (q := (b).toNat) C dX10_keepSale_23 (ka_59 hS) (by omega) (by omega) ?_
  refine z_aload_n C dX10_keepSale_24 0 rfl ?_
  refine z_getR C dX10_keepSale_25 fX10_13 rfl (kd_57 hS) (r_57_14 hS) ?_
  refine z_iload C dX10_keepSale_28 7 rfl ?_
  refine z_iconst C dX10_keepSale_30 ?_
  refine z_iadd C dX10_keepSale_31 ?_
  refine z_iload_n C dX10_keepSale_32 2 rfl ?_
  refine z_iast (q := (b + 1).toNat) C dX10_keepSale_33 (ka_59 hS) (by omega) (by omega) ?_
  refine z_aload_n C dX10_keepSale_34 0 rfl ?_
  refine z_getR C dX10_keepSale_35 fX10_13 rfl (kd_57 hS) (r_57_14 hS) ?_
  refine z_iload C dX10_keepSale_38 7 rfl ?_
  refine z_iconst C dX10_keepSale_40 ?_
  refine z_iadd C dX10_keepSale_41 ?_
  refine z_iload_n C dX10_keepSale_42 3 rfl ?_
  refine z_iast (q := (b + 2).toNat) C dX10_keepSale_43 (ka_59 hS) (by omega) (by omega) ?_
  refine z_aload_n C dX10_keepSale_44 0 rfl ?_
  refine z_getR C dX10_keepSale_45 fX10_13 rfl (kd_57 hS) (r_57_14 hS) ?_
  refine z_iload C dX10_keepSale_48 7 rfl ?_
  refine z_iconst C dX10_keepSale_50 ?_
  refine z_iadd C dX10_keepSale_51 ?_
  refine z_iload C dX10_keepSale_52 4 rfl ?_
  refine z_iast (q := (b + 3).toNat) C dX10_keepSale_54 (ka_59 hS) (by omega) (by omega) ?_
  refine z_aload_n C dX10_keepSale_55 0 rfl ?_
  refine z_getR C dX10_keepSale_56 fX10_13 rfl (kd_57 hS) (r_57_14 hS) ?_
  refine z_iload C dX10_keepSale_59 7 rfl ?_
  refine z_iconst C dX10_keepSale_61 ?_
  refine z_iadd C dX10_keepSale_62 ?_
  refine z_aload_n C dX10_keepSale_63 0 rfl ?_
  refine z_getR C dX10_keepSale_64 fX10_13 rfl (kd_57 hS) (r_57_14 hS) ?_
  refine z_bipush C dX10_keepSale_67 (by decide) ?_
  refine z_iald (q := 109) C dX10_keepSale_69 (ka_59 hS) rfl (by decide) ?_
  refine z_eqi (gi I 59 109) (by (repeat rw [gi_wi_nk _ _ _ (by omega)])) ?_
  refine z_iast (q := (b + 4).toNat) C dX10_keepSale_70 (ka_59 hS) (by omega) (by omega) ?_
  refine z_aload_n C dX10_keepSale_71 0 rfl ?_
  refine z_getR C dX10_keepSale_72 fX10_13 rfl (kd_57 hS) (r_57_14 hS) ?_
  refine z_iload C dX10_keepSale_75 7 rfl ?_
  refine z_iconst C dX10_keepSale_77 ?_
  refine z_iadd C dX10_keepSale_78 ?_
  refine z_iload C dX10_keepSale_79 5 rfl ?_
  refine z_iast (q := (b + 5).toNat) C dX10_keepSale_81 (ka_59 hS) (by omega) (by omega) ?_
  refine z_aload_n C dX10_keepSale_82 0 rfl ?_
  refine z_getR C dX10_keepSale_83 fX10_13 rfl (kd_57 hS) (r_57_14 hS) ?_
  refine z_iload C dX10_keepSale_86 7 rfl ?_
  refine z_bipush C dX10_keepSale_88 (by decide) ?_
  refine z_iadd C dX10_keepSale_90 ?_
  refine z_iload C dX10_keepSale_91 6 rfl ?_
  refine z_iast (q := (b + 6).toNat) C dX10_keepSale_93 (ka_59 hS) (by omega) (by omega) ?_
  refine z_aload_n C dX10_keepSale_94 0 rfl ?_
  refine z_getR C dX10_keepSale_95 fX10_13 rfl (kd_57 hS) (r_57_14 hS) ?_
  refine z_bipush C dX10_keepSale_98 (by decide) ?_
  refine z_dup2 C dX10_keepSale_100 rfl rfl ?_
  refine z_iald (q := 113) C dX10_keepSale_101 (ka_59 hS) rfl (by decide) ?_
  refine z_eqi (gi I 59 113) (by (repeat rw [gi_wi_nk _ _ _ (by omega)])) ?_
  refine z_iconst C dX10_keepSale_102 ?_
  refine z_iadd C dX10_keepSale_103 ?_
  refine z_iast (q := 113) C dX10_keepSale_104 (ka_59 hS) rfl (by decide) ?_
  have hf1 : fX10_keepSale w1 w2 w3 w4 w5 w6 (I, J) = (0, (wi (wi (wi (wi (wi (wi (wi (wi I 59 ((b).toNat) w1) 59 ((b + 1).toNat) w2) 59 ((b + 2).toNat) w3) 59 ((b + 3).toNat) w4) 59 ((b + 4).toNat) (gi I 59 109)) 59 ((b + 5).toNat) w5) 59 ((b + 6).toNat) w6) 59 113 ((gi I 59 113) + 1)), J) := (by simp only [fX10_keepSale, ← hb])
  exact z_returnx C dX10_keepSale_105 (by rw [hf1])

noncomputable def fX10_giveBack (S : Mi × Mj) : Int × Mi × Mj :=
  match S with
  | (I, J) =>
    (0, (wi (wi I 59 110 (-1)) 59 111 (-1)), J)
theorem frX10_giveBack {S : Mi × Mj} {r0 : Int} {I0 : Mi} {J0 : Mj} (h : fX10_giveBack  S = (r0, I0, J0)) (aq kq : Nat) (haq : ¬ (aq = 59 ∧ kq = 110) ∧ ¬ (aq = 59 ∧ kq = 111)) : I0 aq kq = S.1 aq kq := by
  obtain ⟨I, J⟩ := S
  unfold fX10_giveBack at h
  try simp only at h
  simp only [Prod.mk.injEq] at h
  obtain ⟨-, hI, hJ⟩ := h
  exact (congrFun (congrFun hI aq) kq).symm.trans (Eq.trans (wi_nc _ _ haq.2) (Eq.trans (wi_nc _ _ haq.1) rfl))
theorem fjX10_giveBack {S : Mi × Mj} {r0 : Int} {I0 : Mi} {J0 : Mj} (h : fX10_giveBack  S = (r0, I0, J0)) (aq kq : Nat) (haq : True) : J0 aq kq = S.2 aq kq := by
  obtain ⟨I, J⟩ := S
  unfold fX10_giveBack at h
  try simp only at h
  simp only [Prod.mk.injEq] at h
  obtain ⟨-, hI, hJ⟩ := h
  exact (congrFun (congrFun hJ aq) kq).symm.trans rfl
set_option maxHeartbeats 4000000 in
set_option maxRecDepth 100000 in
theorem qX10_giveBack {G : Gx} {σ : State} (hC : Cz G σ) {sh : Sh} {I : Mi} {J : Mj}  (hS : St sh) : Ce G σ 1 yX10_giveBack cX10_giveBack 1 none [.ref (G.2.2 + 57)] (sh, I, J) 0 0 none (sh, (fX10_giveBack (I, J)).2.1, (fX10_giveBack (I, J)).2.2) := by
  refine Ct.of hC (by decide +kernel) (Nat.le_of_ble_eq_true rfl) ?_
  intro p l e R s m args below meth c C
  show Jz G σ p l e R s m args below meth c 1 0 0 (Qx none (sh, (fX10_giveBack (I, J)).2.1, (fX10_giveBack (I, J)).2.2)) (sh, I, J) 0 0 0 [(0, .ref (G.2.2 + 57))] []
  refine z_aload_n C dX10_giveBack_0 0 rfl ?_
  refine z_getR C dX10_giveBack_1 fX10_13 rfl (kd_57 hS) (r_57_14 hS) ?_
  refine z_bipush C dX10_giveBack_4 (by decide) ?_
  refine z_iconst C dX10_giveBack_6 ?_
  refine z_iast (q := 110) C dX10_giveBack_7 (ka_59 hS) rfl (by decide) ?_
  refine z_aload_n C dX10_giveBack_8 0 rfl ?_
  refine z_getR C dX10_giveBack_9 fX10_13 rfl (kd_57 hS) (r_57_14 hS) ?_
  refine z_bipush C dX10_giveBack_12 (by decide) ?_
  refine z_iconst C dX10_giveBack_14 ?_
  refine z_iast (q := 111) C dX10_giveBack_15 (ka_59 hS) rfl (by decide) ?_
  have hf1 : fX10_giveBack (I, J) = (0, (wi (wi I 59 110 (-1)) 59 111 (-1)), J) := (by simp only [fX10_giveBack])
  exact z_returnx C dX10_giveBack_16 (by rw [hf1])

