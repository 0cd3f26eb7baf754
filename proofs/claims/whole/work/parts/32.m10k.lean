/-- a loop by its body: go on with new values, or end with an answer -/
def lpr {V R : Type} (f : V → Mi × Mj → (V ⊕ R) × Mi × Mj) (d : R) : Nat → V → Mi × Mj → R × Mi × Mj
  | 0, _, S => (d, S)
  | n + 1, v, S => match f v S with
    | (.inl w, S1) => lpr f d n w S1
    | (.inr r, S1) => (r, S1)
theorem lpr_l {V R : Type} {f : V → Mi × Mj → (V ⊕ R) × Mi × Mj} {d : R} {n : Nat} {v w : V} {S S1 : Mi × Mj} (h : f v S = (.inl w, S1)) : lpr f d (n + 1) v S = lpr f d n w S1 := by simp only [lpr, h]
theorem lpr_r {V R : Type} {f : V → Mi × Mj → (V ⊕ R) × Mi × Mj} {d r : R} {n : Nat} {v : V} {S S1 : Mi × Mj} (h : f v S = (.inr r, S1)) : lpr f d (n + 1) v S = (r, S1) := by simp only [lpr, h]
theorem lpr_fr {V R : Type} {f : V → Mi × Mj → (V ⊕ R) × Mi × Mj} {d : R} {aq kq : Nat} (hf : ∀ v S r I5 J5, f v S = (r, I5, J5) → I5 aq kq = S.1 aq kq) {n : Nat} {v : V} {S : Mi × Mj} {r0 : R} {I0 : Mi} {J0 : Mj} (h : lpr f d n v S = (r0, I0, J0)) : I0 aq kq = S.1 aq kq := by
  induction n generalizing v S with
  | zero => simp only [lpr, Prod.mk.injEq] at h; rw [h.2]
  | succ n ih =>
    obtain ⟨⟨w, I1, J1⟩, hq⟩ : ∃ q, q = f v S := ⟨_, rfl⟩
    have h1 := hf v S w I1 J1 hq.symm
    match w, hq with
    | .inl w, hq => rw [lpr_l hq.symm] at h; exact (ih h).trans h1
    | .inr w, hq =>
      rw [lpr_r hq.symm] at h
      simp only [Prod.mk.injEq] at h
      rw [← h.2.1]; exact h1
theorem lpr_fj {V R : Type} {f : V → Mi × Mj → (V ⊕ R) × Mi × Mj} {d : R} {aq kq : Nat} (hf : ∀ v S r I5 J5, f v S = (r, I5, J5) → J5 aq kq = S.2 aq kq) {n : Nat} {v : V} {S : Mi × Mj} {r0 : R} {I0 : Mi} {J0 : Mj} (h : lpr f d n v S = (r0, I0, J0)) : J0 aq kq = S.2 aq kq := by
  induction n generalizing v S with
  | zero => simp only [lpr, Prod.mk.injEq] at h; rw [h.2]
  | succ n ih =>
    obtain ⟨⟨w, I1, J1⟩, hq⟩ : ∃ q, q = f v S := ⟨_, rfl⟩
    have h1 := hf v S w I1 J1 hq.symm
    match w, hq with
    | .inl w, hq => rw [lpr_l hq.symm] at h; exact (ih h).trans h1
    | .inr w, hq =>
      rw [lpr_r hq.symm] at h
      simp only [Prod.mk.injEq] at h
      rw [← h.2.2]; exact h1
theorem lpr_ind {V R : Type} {f : V → Mi × Mj → (V ⊕ R) × Mi × Mj} {d : R} {P : V → Mi × Mj → Prop} {Q : R → Mi × Mj → Prop} (hl : ∀ v S w S1, P v S → f v S = (.inl w, S1) → P w S1) (hr : ∀ v S r S1, P v S → f v S = (.inr r, S1) → Q r S1) (hd : ∀ v S, P v S → Q d S) : ∀ (n : Nat) (v : V) (S : Mi × Mj), P v S → Q (lpr f d n v S).1 (lpr f d n v S).2 := by
  intro n
  induction n with
  | zero => intro v S h; exact hd v S h
  | succ n ih =>
    intro v S h
    obtain ⟨⟨w, S1⟩, hq⟩ : ∃ q, q = f v S := ⟨_, rfl⟩
    match w, hq with
    | .inl w, hq => rw [lpr_l hq.symm]; exact ih _ _ (hl _ _ _ _ h hq.symm)
    | .inr w, hq => rw [lpr_r hq.symm]; exact hr _ _ _ _ h hq.symm
/-- the reader of texts has gone on from t, beyond it where it stands at a sign -/
def P2 (t : Int) (I : Mi) : Prop := t ≤ gi I 57 5 ∧ (gi I 57 7 = 4 → t < gi I 57 5)
theorem goM1 {I : Mi} (n : Nat) : gi I 57 5 ≤ wh (goC1 I) goF1 n (gi I 57 5) := by
  refine wh_inv (P := fun to => gi I 57 5 ≤ to) (fun x h hc => ?_) n _ (Int.le_refl _)
  show _ ≤ x + 1
  omega
theorem goM2 {I : Mi} {fm lt to : Int} (n : Nat) : to ≤ (wh (goC2 I) (goF2 I fm lt) n (to, 1, 0, 0)).1 := by
  refine wh_inv (P := fun s : Int × Int × Int × Int => to ≤ s.1) (fun x h hc => ?_) n _ (Int.le_refl _)
  obtain ⟨tp, g, wd, nm⟩ := x
  show to ≤ tp + 1
  have h3 : to ≤ tp := h
  omega
theorem moX10_go_198 {to t : Int} {I : Mi} {J : Mj} {r0 : Int} {I0 : Mi} {J0 : Mj} (h : fX10_go_198 to (I, J) = (r0, I0, J0)) (hl : LX I) (ht : 0 ≤ to ∧ to ≤ gi I 57 3) (h5 : t ≤ to) : P2 t I0 := by
  unfold fX10_go_198 at h
  simp only at h
  have hw := goM2 (I := I) (fm := to) (lt := b2 (97 ≤ gi I 58 to.toNat ∧ gi I 58 to.toNat ≤ 122)) (to := to) ((gi I 57 3 - to).toNat + 1)
  have hw2 := goW2 (fm := to) (lt := b2 (97 ≤ gi I 58 to.toNat ∧ gi I 58 to.toNat ≤ 122)) ht ((gi I 57 3 - to).toNat + 1)
  generalize wh (goC2 I) (goF2 I to (b2 (97 ≤ gi I 58 to.toNat ∧ gi I 58 to.toNat ≤ 122))) ((gi I 57 3 - to).toNat + 1) (to, 1, 0, 0) = q at h hw hw2
  obtain ⟨tp, g, wd, nm⟩ := q
  simp only at h hw hw2
  have hz := hl.2.1
  have key : ∀ v : Int, -2147483648 ≤ v ∧ v < 4 → P2 t (wi (wi (wi (wi (wi (wi I 57 5 to) 57 6 to) 57 8 0) 57 8 nm) 57 5 tp) 57 7 v) := fun v hv => by
    unfold P2
    rw [gi_wi_nk _ _ _ (by decide), gi_wi_eq _ _ _ (by omega), gi_wi_eq _ _ _ (by omega)]
    omega
  repeat' split at h
  all_goals (simp only [Prod.mk.injEq] at h; obtain ⟨-, hI, -⟩ := h; rw [← hI]; exact key _ (by decide))
theorem moX10_go_174 {to t : Int} {I : Mi} {J : Mj} {r0 : Int} {I0 : Mi} {J0 : Mj} (h : fX10_go_174 to (I, J) = (r0, I0, J0)) (hl : LX I) (ht : 0 ≤ to ∧ to < gi I 57 3) (h5 : t ≤ to) : P2 t I0 := by
  unfold fX10_go_174 at h
  simp only [Prod.mk.injEq] at h
  obtain ⟨-, hI, -⟩ := h
  rw [← hI]
  have hz := hl.2.1
  unfold P2
  rw [gi_wi_eq _ _ _ (by omega)]
  omega
theorem moX10_go_96 {to t : Int} {I : Mi} {J : Mj} {r0 : Int} {I0 : Mi} {J0 : Mj} (h : fX10_go_96 to (I, J) = (r0, I0, J0)) (hl : LX I) (ht : 0 ≤ to ∧ to ≤ gi I 57 3) (h5 : t ≤ to) : P2 t I0 := by
  unfold fX10_go_96 at h
  simp only at h
  have hz := hl.2.1
  repeat' split at h
  all_goals first
    | exact moX10_go_198 h hl ht h5
    | exact moX10_go_174 h hl (by omega) h5
    | (simp only [Prod.mk.injEq] at h; obtain ⟨-, hI, -⟩ := h; rw [← hI]; unfold P2; rw [gi_wi_eq _ _ _ (by decide), gi_wi_nk _ _ _ (by decide), gi_wi_nk _ _ _ (by decide), gi_wi_eq _ _ _ (by omega)]; omega)
    | (simp only [Prod.mk.injEq] at h; obtain ⟨-, hI, -⟩ := h; rw [← hI]; unfold P2; rw [gi_wi_eq _ _ _ (by omega)]; omega)
def LXP (t : Int) (I : Mi) : Prop := LX I ∧ t ≤ gi I 57 5 ∧ (gi I 57 7 = 4 → t < gi I 57 5)
theorem moX10_go1 {t : Int} {I : Mi} {J : Mj} {r0 : Int} {I0 : Mi} {J0 : Mj} (h : fX10_go (I, J) = (r0, I0, J0)) (hl2 : LX I) (h5 : t ≤ gi I 57 5) : P2 t I0 := by
  unfold fX10_go at h
  simp only at h
  have hw := goW1 hl2 ((gi I 57 3 - gi I 57 5).toNat + 1)
  have hw2 := goM1 (I := I) ((gi I 57 3 - gi I 57 5).toNat + 1)
  have hz := hl2.2.1
  generalize wh (goC1 I) goF1 ((gi I 57 3 - gi I 57 5).toNat + 1) (gi I 57 5) = to at h hw hw2
  repeat' split at h
  all_goals first
    | exact moX10_go_96 h hl2 hw (by omega)
    | (simp only [Prod.mk.injEq] at h; obtain ⟨-, hI, -⟩ := h; rw [← hI]; unfold P2; rw [gi_wi_eq _ _ _ (by decide), gi_wi_nk _ _ _ (by decide), gi_wi_nk _ _ _ (by decide), gi_wi_nk _ _ _ (by decide), gi_wi_eq _ _ _ (by omega)]; omega)
theorem moX10_go {t : Int} {I : Mi} {J : Mj} {r0 : Int} {I0 : Mi} {J0 : Mj} (h : fX10_go (I, J) = (r0, I0, J0)) (hl : LXP t I) : LXP t I0 := by
  exact ⟨okX10_go h hl.1, moX10_go1 h hl.1 hl.2.1⟩

theorem moX10_bad {k t : Int} {I : Mi} {J : Mj} {r0 : Bool} {I0 : Mi} {J0 : Mj} (h : fX10_bad k (I, J) = (r0, I0, J0)) (hl : LXP t I) : LXP t I0 := by
  refine ⟨okX10_bad h hl.1, ?_⟩
  have e5 := gi_fk (frX10_bad h 57 5 (by decide))
  have e7 := gi_fk (frX10_bad h 57 7 (by decide))
  rw [e5, e7]; exact hl.2
theorem moX10_readNumber {a : Int} {b : Int} {t : Int} {I : Mi} {J : Mj} {r0 : Bool} {I0 : Mi} {J0 : Mj} (h : fX10_readNumber a b (I, J) = (r0, I0, J0)) (hl : LXP t I) : LXP t I0 := by
  unfold fX10_readNumber at h
  try simp only at h
  have hb0 := hl
  unfold LXP LX at hb0
  by_cases hq1 : (gi I 57 7) = 3
  · simp only [if_pos hq1] at h
    by_cases hq2 : a ≤ (gi I 57 8) ∧ (gi I 57 8) ≤ b
    · simp only [if_pos hq2] at h
      obtain ⟨⟨r3, I4, J5⟩, hq3⟩ : ∃ q, q = fX10_go ((wi I 57 13 (gi I 57 8)), J) := ⟨_, rfl⟩
      rw [← hq3] at h; try simp only at h
      have hl3 : LXP t I4 := moX10_go hq3.symm (by have hb := hl; unfold LXP LX at hb ⊢; have : gi (wi I 57 13 (gi I 57 8)) 57 3 = gi I 57 3 := (gi_wi_nk _ _ _ (by decide)); have : gi (wi I 57 13 (gi I 57 8)) 57 5 = gi I 57 5 := (gi_wi_nk _ _ _ (by decide)); have : gi (wi I 57 13 (gi I 57 8)) 60 0 = gi I 60 0 := (gi_wi_na _ _ _ _ (by decide)); have : gi (wi I 57 13 (gi I 57 8)) 60 1 = gi I 60 1 := (gi_wi_na _ _ _ _ (by decide)); have : gi (wi I 57 13 (gi I 57 8)) 59 0 = gi I 59 0 := (gi_wi_na _ _ _ _ (by decide)); have : gi (wi I 57 13 (gi I 57 8)) 57 24 = gi I 57 24 := (gi_wi_nk _ _ _ (by decide)); have : gi (wi I 57 13 (gi I 57 8)) 57 7 = gi I 57 7 := (gi_wi_nk _ _ _ (by decide)); omega); have hbhl3 := hl3; unfold LXP LX at hbhl3
      simp only [Prod.mk.injEq] at h
      obtain ⟨-, hI, hJ⟩ := h
      rw [← hI]
      exact hl3
    · simp only [if_neg hq2] at h
      obtain ⟨⟨r9, I10, J11⟩, hq4⟩ : ∃ q, q = fX10_bad 2 (I, J) := ⟨_, rfl⟩
      rw [← hq4] at h; try simp only at h
      have hl4 : LXP t I10 := moX10_bad hq4.symm hl; have hbhl4 := hl4; unfold LXP LX at hbhl4
      simp only [Prod.mk.injEq] at h
      obtain ⟨-, hI, hJ⟩ := h
      rw [← hI]
      exact hl4
  · simp only [if_neg hq1] at h
    obtain ⟨⟨r15, I16, J17⟩, hq5⟩ : ∃ q, q = fX10_bad 1 (I, J) := ⟨_, rfl⟩
    rw [← hq5] at h; try simp only at h
    have hl5 : LXP t I16 := moX10_bad hq5.symm hl; have hbhl5 := hl5; unfold LXP LX at hbhl5
    simp only [Prod.mk.injEq] at h
    obtain ⟨-, hI, hJ⟩ := h
    rw [← hI]
    exact hl5

theorem moX10_readEnd {t : Int} {I : Mi} {J : Mj} {r0 : Bool} {I0 : Mi} {J0 : Mj} (h : fX10_readEnd  (I, J) = (r0, I0, J0)) (hl : LXP t I) : LXP t I0 := by
  unfold fX10_readEnd at h
  try simp only at h
  have hb0 := hl
  unfold LXP LX at hb0
  by_cases hq1 : gi I 57 7 = 4 ∧ gi I 57 9 = 59
  · simp only [if_pos hq1] at h
    obtain ⟨⟨r2, I3, J4⟩, hq2⟩ : ∃ q, q = fX10_go (I, J) := ⟨_, rfl⟩
    rw [← hq2] at h; try simp only at h
    have hl2 : LXP t I3 := moX10_go hq2.symm hl; have hbhl2 := hl2; unfold LXP LX at hbhl2
    simp only [Prod.mk.injEq] at h
    obtain ⟨-, hI, hJ⟩ := h
    rw [← hI]
    exact hl2
  · simp only [if_neg hq1] at h
    obtain ⟨⟨r8, I9, J10⟩, hq3⟩ : ∃ q, q = fX10_bad 1 (I, J) := ⟨_, rfl⟩
    rw [← hq3] at h; try simp only at h
    have hl3 : LXP t I9 := moX10_bad hq3.symm hl; have hbhl3 := hl3; unfold LXP LX at hbhl3
    simp only [Prod.mk.injEq] at h
    obtain ⟨-, hI, hJ⟩ := h
    rw [← hI]
    exact hl3

theorem moX10_readNew_52 {w : Int} {t : Int} {I : Mi} {J : Mj} {r0 : Bool} {I0 : Mi} {J0 : Mj} (h : fX10_readNew_52 w (I, J) = (r0, I0, J0)) (hl : LXP t I) : LXP t I0 := by
  unfold fX10_readNew_52 at h
  try simp only at h
  have hb0 := hl
  unfold LXP LX at hb0
  obtain ⟨⟨r4, I5, J6⟩, hq1⟩ : ∃ q, q = fX10_bad 3 (I, J) := ⟨_, rfl⟩
  rw [← hq1] at h; try simp only at h
  have hl1 : LXP t I5 := moX10_bad hq1.symm hl; have hbhl1 := hl1; unfold LXP LX at hbhl1
  simp only [Prod.mk.injEq] at h
  obtain ⟨-, hI, hJ⟩ := h
  rw [← hI]
  exact hl1
theorem moX10_readNew {w : Int} {t : Int} {I : Mi} {J : Mj} {r0 : Bool} {I0 : Mi} {J0 : Mj} (h : fX10_readNew w (I, J) = (r0, I0, J0)) (hl : LXP t I) : LXP t I0 := by
  unfold fX10_readNew at h
  try simp only at h
  have hb0 := hl
  unfold LXP LX at hb0
  by_cases hq1 : gi I 57 7 = 2 ∧ isNm (gj J 57 12) = true
  · simp only [if_pos hq1] at h
    by_cases hq2 : (fd J 64 0 (gi I 60 0)) = (-1)
    · simp only [if_pos hq2] at h
      by_cases hq3 : (fd J 64 8 (gi I 60 1)) = (-1)
      · simp only [if_pos hq3] at h
        obtain ⟨⟨r12, I13, J14⟩, hq4⟩ : ∃ q, q = fX10_go (I, (wj J 64 ((w).toNat) (gj J 57 12))) := ⟨_, rfl⟩
        rw [← hq4] at h; try simp only at h
        have hl4 : LXP t I13 := moX10_go hq4.symm hl; have hbhl4 := hl4; unfold LXP LX at hbhl4
        simp only [Prod.mk.injEq] at h
        obtain ⟨-, hI, hJ⟩ := h
        rw [← hI]
        exact hl4
      · simp only [if_neg hq3] at h
        exact moX10_readNew_52 h hl
    · simp only [if_neg hq2] at h
      exact moX10_readNew_52 h hl
  · simp only [if_neg hq1] at h
    obtain ⟨⟨r18, I19, J20⟩, hq5⟩ : ∃ q, q = fX10_bad 1 (I, J) := ⟨_, rfl⟩
    rw [← hq5] at h; try simp only at h
    have hl5 : LXP t I19 := moX10_bad hq5.symm hl; have hbhl5 := hl5; unfold LXP LX at hbhl5
    simp only [Prod.mk.injEq] at h
    obtain ⟨-, hI, hJ⟩ := h
    rw [← hI]
    exact hl5

theorem moX10_readWho {t : Int} {I : Mi} {J : Mj} {r0 : Bool} {I0 : Mi} {J0 : Mj} (h : fX10_readWho  (I, J) = (r0, I0, J0)) (hl : LXP t I) : LXP t I0 := by
  unfold fX10_readWho at h
  try simp only at h
  have hb0 := hl
  unfold LXP LX at hb0
  by_cases hq1 : (gi I 60 0) = 8
  · simp only [if_pos hq1] at h
    obtain ⟨⟨r42, I43, J44⟩, hq2⟩ : ∃ q, q = fX10_bad 4 (I, J) := ⟨_, rfl⟩
    rw [← hq2] at h; try simp only at h
    have hl2 : LXP t I43 := moX10_bad hq2.symm hl; have hbhl2 := hl2; unfold LXP LX at hbhl2
    simp only [Prod.mk.injEq] at h
    obtain ⟨-, hI, hJ⟩ := h
    rw [← hI]
    exact hl2
  · simp only [if_neg hq1] at h
    obtain ⟨⟨r2, I3, J4⟩, hq3⟩ : ∃ q, q = fX10_go (I, J) := ⟨_, rfl⟩
    rw [← hq3] at h; try simp only at h
    have hl3 : LXP t I3 := moX10_go hq3.symm hl; have hbhl3 := hl3; unfold LXP LX at hbhl3
    obtain ⟨⟨r7, I8, J9⟩, hq4⟩ : ∃ q, q = fX10_readNew (gi I 60 0) (I3, J4) := ⟨_, rfl⟩
    rw [← hq4] at h; try simp only at h
    have hl4 : LXP t I8 := moX10_readNew hq4.symm hl3; have hbhl4 := hl4; unfold LXP LX at hbhl4
    by_cases hq5 : r7 = true
    · simp only [if_pos hq5] at h
      by_cases hq6 : gi I8 57 7 = 2 ∧ gj J9 57 12 = wt 1
      · simp only [if_pos hq6] at h
        obtain ⟨⟨r26, I27, J28⟩, hq7⟩ : ∃ q, q = fX10_go ((wi I8 60 (((8 + (3 * (gi I 60 0))) + 0).toNat) 1), J9) := ⟨_, rfl⟩
        rw [← hq7] at h; try simp only at h
        have hl7 : LXP t I27 := moX10_go hq7.symm (by have hb := hl4; unfold LXP LX at hb ⊢; have : gi (wi I8 60 (((8 + (3 * (gi I 60 0))) + 0).toNat) 1) 57 3 = gi I8 57 3 := (gi_wi_na _ _ _ _ (by decide)); have : gi (wi I8 60 (((8 + (3 * (gi I 60 0))) + 0).toNat) 1) 57 5 = gi I8 57 5 := (gi_wi_na _ _ _ _ (by decide)); have : gi (wi I8 60 (((8 + (3 * (gi I 60 0))) + 0).toNat) 1) 60 0 = gi I8 60 0 := (gi_wi_nk _ _ _ (by omega)); have : gi (wi I8 60 (((8 + (3 * (gi I 60 0))) + 0).toNat) 1) 60 1 = gi I8 60 1 := (gi_wi_nk _ _ _ (by omega)); have : gi (wi I8 60 (((8 + (3 * (gi I 60 0))) + 0).toNat) 1) 59 0 = gi I8 59 0 := (gi_wi_na _ _ _ _ (by decide)); have : gi (wi I8 60 (((8 + (3 * (gi I 60 0))) + 0).toNat) 1) 57 24 = gi I8 57 24 := (gi_wi_na _ _ _ _ (by decide)); have : gi (wi I8 60 (((8 + (3 * (gi I 60 0))) + 0).toNat) 1) 57 7 = gi I8 57 7 := (gi_wi_na _ _ _ _ (by decide)); omega); have hbhl7 := hl7; unfold LXP LX at hbhl7
        by_cases hq8 : gi I27 57 7 = 2 ∧ gj J28 57 12 = wt 2
        · simp only [if_pos hq8] at h
          obtain ⟨⟨r35, I36, J37⟩, hq9⟩ : ∃ q, q = fX10_go ((wi I27 60 (((8 + (3 * (gi I 60 0))) + 1).toNat) 1), J28) := ⟨_, rfl⟩
          rw [← hq9] at h; try simp only at h
          have hl9 : LXP t I36 := moX10_go hq9.symm (by have hb := hl7; unfold LXP LX at hb ⊢; have : gi (wi I27 60 (((8 + (3 * (gi I 60 0))) + 1).toNat) 1) 57 3 = gi I27 57 3 := (gi_wi_na _ _ _ _ (by decide)); have : gi (wi I27 60 (((8 + (3 * (gi I 60 0))) + 1).toNat) 1) 57 5 = gi I27 57 5 := (gi_wi_na _ _ _ _ (by decide)); have : gi (wi I27 60 (((8 + (3 * (gi I 60 0))) + 1).toNat) 1) 60 0 = gi I27 60 0 := (gi_wi_nk _ _ _ (by omega)); have : gi (wi I27 60 (((8 + (3 * (gi I 60 0))) + 1).toNat) 1) 60 1 = gi I27 60 1 := (gi_wi_nk _ _ _ (by omega)); have : gi (wi I27 60 (((8 + (3 * (gi I 60 0))) + 1).toNat) 1) 59 0 = gi I27 59 0 := (gi_wi_na _ _ _ _ (by decide)); have : gi (wi I27 60 (((8 + (3 * (gi I 60 0))) + 1).toNat) 1) 57 24 = gi I27 57 24 := (gi_wi_na _ _ _ _ (by decide)); have : gi (wi I27 60 (((8 + (3 * (gi I 60 0))) + 1).toNat) 1) 57 7 = gi I27 57 7 := (gi_wi_na _ _ _ _ (by decide)); omega); have hbhl9 := hl9; unfold LXP LX at hbhl9
          simp only [Prod.mk.injEq] at h
          obtain ⟨-, hI, hJ⟩ := h
          rw [← hI]
          exact (by have hb := hl9; unfold LXP LX at hb ⊢; have : gi (wi I36 60 0 ((gi I 60 0) + 1)) 57 3 = gi I36 57 3 := (gi_wi_na _ _ _ _ (by decide)); have : gi (wi I36 60 0 ((gi I 60 0) + 1)) 57 5 = gi I36 57 5 := (gi_wi_na _ _ _ _ (by decide)); have : gi (wi I36 60 0 ((gi I 60 0) + 1)) 60 0 = (gi I 60 0) + 1 := (gi_wi_eq (x := (gi I 60 0) + 1) _ _ _ (by have := gi_rng I 60 0; omega)); have : gi (wi I36 60 0 ((gi I 60 0) + 1)) 60 1 = gi I36 60 1 := (gi_wi_nk _ _ _ (by decide)); have : gi (wi I36 60 0 ((gi I 60 0) + 1)) 59 0 = gi I36 59 0 := (gi_wi_na _ _ _ _ (by decide)); have : gi (wi I36 60 0 ((gi I 60 0) + 1)) 57 24 = gi I36 57 24 := (gi_wi_na _ _ _ _ (by decide)); have : gi (wi I36 60 0 ((gi I 60 0) + 1)) 57 7 = gi I36 57 7 := (gi_wi_na _ _ _ _ (by decide)); omega)
        · simp only [if_neg hq8] at h
          simp only [Prod.mk.injEq] at h
          obtain ⟨-, hI, hJ⟩ := h
          rw [← hI]
          exact (by have hb := hl7; unfold LXP LX at hb ⊢; have : gi (wi (wi I27 60 (((8 + (3 * (gi I 60 0))) + 1).toNat) 0) 60 0 ((gi I 60 0) + 1)) 57 3 = gi I27 57 3 := (Eq.trans (gi_wi_na _ _ _ _ (by decide)) (gi_wi_na _ _ _ _ (by decide))); have : gi (wi (wi I27 60 (((8 + (3 * (gi I 60 0))) + 1).toNat) 0) 60 0 ((gi I 60 0) + 1)) 57 5 = gi I27 57 5 := (Eq.trans (gi_wi_na _ _ _ _ (by decide)) (gi_wi_na _ _ _ _ (by decide))); have : gi (wi (wi I27 60 (((8 + (3 * (gi I 60 0))) + 1).toNat) 0) 60 0 ((gi I 60 0) + 1)) 60 0 = (gi I 60 0) + 1 := (gi_wi_eq (x := (gi I 60 0) + 1) _ _ _ (by have := gi_rng I 60 0; omega)); have : gi (wi (wi I27 60 (((8 + (3 * (gi I 60 0))) + 1).toNat) 0) 60 0 ((gi I 60 0) + 1)) 60 1 = gi I27 60 1 := (Eq.trans (gi_wi_nk _ _ _ (by decide)) (gi_wi_nk _ _ _ (by omega))); have : gi (wi (wi I27 60 (((8 + (3 * (gi I 60 0))) + 1).toNat) 0) 60 0 ((gi I 60 0) + 1)) 59 0 = gi I27 59 0 := (Eq.trans (gi_wi_na _ _ _ _ (by decide)) (gi_wi_na _ _ _ _ (by decide))); have : gi (wi (wi I27 60 (((8 + (3 * (gi I 60 0))) + 1).toNat) 0) 60 0 ((gi I 60 0) + 1)) 57 24 = gi I27 57 24 := (Eq.trans (gi_wi_na _ _ _ _ (by decide)) (gi_wi_na _ _ _ _ (by decide))); have : gi (wi (wi I27 60 (((8 + (3 * (gi I 60 0))) + 1).toNat) 0) 60 0 ((gi I 60 0) + 1)) 57 7 = gi I27 57 7 := (Eq.trans (gi_wi_na _ _ _ _ (by decide)) (gi_wi_na _ _ _ _ (by decide))); omega)
      · simp only [if_neg hq6] at h
        by_cases hq10 : gi I8 57 7 = 2 ∧ gj J9 57 12 = wt 2
        · simp only [if_pos hq10] at h
          obtain ⟨⟨r19, I20, J21⟩, hq11⟩ : ∃ q, q = fX10_go ((wi (wi I8 60 (((8 + (3 * (gi I 60 0))) + 0).toNat) 0) 60 (((8 + (3 * (gi I 60 0))) + 1).toNat) 1), J9) := ⟨_, rfl⟩
          rw [← hq11] at h; try simp only at h
          have hl11 : LXP t I20 := moX10_go hq11.symm (by have hb := hl4; unfold LXP LX at hb ⊢; have : gi (wi (wi I8 60 (((8 + (3 * (gi I 60 0))) + 0).toNat) 0) 60 (((8 + (3 * (gi I 60 0))) + 1).toNat) 1) 57 3 = gi I8 57 3 := (Eq.trans (gi_wi_na _ _ _ _ (by decide)) (gi_wi_na _ _ _ _ (by decide))); have : gi (wi (wi I8 60 (((8 + (3 * (gi I 60 0))) + 0).toNat) 0) 60 (((8 + (3 * (gi I 60 0))) + 1).toNat) 1) 57 5 = gi I8 57 5 := (Eq.trans (gi_wi_na _ _ _ _ (by decide)) (gi_wi_na _ _ _ _ (by decide))); have : gi (wi (wi I8 60 (((8 + (3 * (gi I 60 0))) + 0).toNat) 0) 60 (((8 + (3 * (gi I 60 0))) + 1).toNat) 1) 60 0 = gi I8 60 0 := (Eq.trans (gi_wi_nk _ _ _ (by omega)) (gi_wi_nk _ _ _ (by omega))); have : gi (wi (wi I8 60 (((8 + (3 * (gi I 60 0))) + 0).toNat) 0) 60 (((8 + (3 * (gi I 60 0))) + 1).toNat) 1) 60 1 = gi I8 60 1 := (Eq.trans (gi_wi_nk _ _ _ (by omega)) (gi_wi_nk _ _ _ (by omega))); have : gi (wi (wi I8 60 (((8 + (3 * (gi I 60 0))) + 0).toNat) 0) 60 (((8 + (3 * (gi I 60 0))) + 1).toNat) 1) 59 0 = gi I8 59 0 := (Eq.trans (gi_wi_na _ _ _ _ (by decide)) (gi_wi_na _ _ _ _ (by decide))); have : gi (wi (wi I8 60 (((8 + (3 * (gi I 60 0))) + 0).toNat) 0) 60 (((8 + (3 * (gi I 60 0))) + 1).toNat) 1) 57 24 = gi I8 57 24 := (Eq.trans (gi_wi_na _ _ _ _ (by decide)) (gi_wi_na _ _ _ _ (by decide))); have : gi (wi (wi I8 60 (((8 + (3 * (gi I 60 0))) + 0).toNat) 0) 60 (((8 + (3 * (gi I 60 0))) + 1).toNat) 1) 57 7 = gi I8 57 7 := (Eq.trans (gi_wi_na _ _ _ _ (by decide)) (gi_wi_na _ _ _ _ (by decide))); omega); have hbhl11 := hl11; unfold LXP LX at hbhl11
          simp only [Prod.mk.injEq] at h
          obtain ⟨-, hI, hJ⟩ := h
          rw [← hI]
          exact (by have hb := hl11; unfold LXP LX at hb ⊢; have : gi (wi I20 60 0 ((gi I 60 0) + 1)) 57 3 = gi I20 57 3 := (gi_wi_na _ _ _ _ (by decide)); have : gi (wi I20 60 0 ((gi I 60 0) + 1)) 57 5 = gi I20 57 5 := (gi_wi_na _ _ _ _ (by decide)); have : gi (wi I20 60 0 ((gi I 60 0) + 1)) 60 0 = (gi I 60 0) + 1 := (gi_wi_eq (x := (gi I 60 0) + 1) _ _ _ (by have := gi_rng I 60 0; omega)); have : gi (wi I20 60 0 ((gi I 60 0) + 1)) 60 1 = gi I20 60 1 := (gi_wi_nk _ _ _ (by decide)); have : gi (wi I20 60 0 ((gi I 60 0) + 1)) 59 0 = gi I20 59 0 := (gi_wi_na _ _ _ _ (by decide)); have : gi (wi I20 60 0 ((gi I 60 0) + 1)) 57 24 = gi I20 57 24 := (gi_wi_na _ _ _ _ (by decide)); have : gi (wi I20 60 0 ((gi I 60 0) + 1)) 57 7 = gi I20 57 7 := (gi_wi_na _ _ _ _ (by decide)); omega)
        · simp only [if_neg hq10] at h
          simp only [Prod.mk.injEq] at h
          obtain ⟨-, hI, hJ⟩ := h
          rw [← hI]
          exact (by have hb := hl4; unfold LXP LX at hb ⊢; have : gi (wi (wi (wi I8 60 (((8 + (3 * (gi I 60 0))) + 0).toNat) 0) 60 (((8 + (3 * (gi I 60 0))) + 1).toNat) 0) 60 0 ((gi I 60 0) + 1)) 57 3 = gi I8 57 3 := (Eq.trans (gi_wi_na _ _ _ _ (by decide)) (Eq.trans (gi_wi_na _ _ _ _ (by decide)) (gi_wi_na _ _ _ _ (by decide)))); have : gi (wi (wi (wi I8 60 (((8 + (3 * (gi I 60 0))) + 0).toNat) 0) 60 (((8 + (3 * (gi I 60 0))) + 1).toNat) 0) 60 0 ((gi I 60 0) + 1)) 57 5 = gi I8 57 5 := (Eq.trans (gi_wi_na _ _ _ _ (by decide)) (Eq.trans (gi_wi_na _ _ _ _ (by decide)) (gi_wi_na _ _ _ _ (by decide)))); have : gi (wi (wi (wi I8 60 (((8 + (3 * (gi I 60 0))) + 0).toNat) 0) 60 (((8 + (3 * (gi I 60 0))) + 1).toNat) 0) 60 0 ((gi I 60 0) + 1)) 60 0 = (gi I 60 0) + 1 := (gi_wi_eq (x := (gi I 60 0) + 1) _ _ _ (by have := gi_rng I 60 0; omega)); have : gi (wi (wi (wi I8 60 (((8 + (3 * (gi I 60 0))) + 0).toNat) 0) 60 (((8 + (3 * (gi I 60 0))) + 1).toNat) 0) 60 0 ((gi I 60 0) + 1)) 60 1 = gi I8 60 1 := (Eq.trans (gi_wi_nk _ _ _ (by decide)) (Eq.trans (gi_wi_nk _ _ _ (by omega)) (gi_wi_nk _ _ _ (by omega)))); have : gi (wi (wi (wi I8 60 (((8 + (3 * (gi I 60 0))) + 0).toNat) 0) 60 (((8 + (3 * (gi I 60 0))) + 1).toNat) 0) 60 0 ((gi I 60 0) + 1)) 59 0 = gi I8 59 0 := (Eq.trans (gi_wi_na _ _ _ _ (by decide)) (Eq.trans (gi_wi_na _ _ _ _ (by decide)) (gi_wi_na _ _ _ _ (by decide)))); have : gi (wi (wi (wi I8 60 (((8 + (3 * (gi I 60 0))) + 0).toNat) 0) 60 (((8 + (3 * (gi I 60 0))) + 1).toNat) 0) 60 0 ((gi I 60 0) + 1)) 57 24 = gi I8 57 24 := (Eq.trans (gi_wi_na _ _ _ _ (by decide)) (Eq.trans (gi_wi_na _ _ _ _ (by decide)) (gi_wi_na _ _ _ _ (by decide)))); have : gi (wi (wi (wi I8 60 (((8 + (3 * (gi I 60 0))) + 0).toNat) 0) 60 (((8 + (3 * (gi I 60 0))) + 1).toNat) 0) 60 0 ((gi I 60 0) + 1)) 57 7 = gi I8 57 7 := (Eq.trans (gi_wi_na _ _ _ _ (by decide)) (Eq.trans (gi_wi_na _ _ _ _ (by decide)) (gi_wi_na _ _ _ _ (by decide)))); omega)
    · simp only [if_neg hq5] at h
      simp only [Prod.mk.injEq] at h
      obtain ⟨-, hI, hJ⟩ := h
      rw [← hI]
      exact hl4

theorem moX10_readMint {t : Int} {I : Mi} {J : Mj} {r0 : Bool} {I0 : Mi} {J0 : Mj} (h : fX10_readMint  (I, J) = (r0, I0, J0)) (hl : LXP t I) : LXP t I0 := by
  unfold fX10_readMint at h
  try simp only at h
  have hb0 := hl
  unfold LXP LX at hb0
  by_cases hq1 : (gi I 60 1) = 4
  · simp only [if_pos hq1] at h
    obtain ⟨⟨r29, I30, J31⟩, hq2⟩ : ∃ q, q = fX10_bad 4 (I, J) := ⟨_, rfl⟩
    rw [← hq2] at h; try simp only at h
    have hl2 : LXP t I30 := moX10_bad hq2.symm hl; have hbhl2 := hl2; unfold LXP LX at hbhl2
    simp only [Prod.mk.injEq] at h
    obtain ⟨-, hI, hJ⟩ := h
    rw [← hI]
    exact hl2
  · simp only [if_neg hq1] at h
    obtain ⟨⟨r2, I3, J4⟩, hq3⟩ : ∃ q, q = fX10_go (I, J) := ⟨_, rfl⟩
    rw [← hq3] at h; try simp only at h
    have hl3 : LXP t I3 := moX10_go hq3.symm hl; have hbhl3 := hl3; unfold LXP LX at hbhl3
    obtain ⟨⟨r7, I8, J9⟩, hq4⟩ : ∃ q, q = fX10_readNew (8 + (gi I 60 1)) (I3, J4) := ⟨_, rfl⟩
    rw [← hq4] at h; try simp only at h
    have hl4 : LXP t I8 := moX10_readNew hq4.symm hl3; have hbhl4 := hl4; unfold LXP LX at hbhl4
    by_cases hq5 : r7 = true
    · simp only [if_pos hq5] at h
      obtain ⟨⟨r14, I15, J16⟩, hq6⟩ : ∃ q, q = fX10_readNumber 1 50 (I8, J9) := ⟨_, rfl⟩
      rw [← hq6] at h; try simp only at h
      have hl6 : LXP t I15 := moX10_readNumber hq6.symm hl4; have hbhl6 := hl6; unfold LXP LX at hbhl6
      by_cases hq7 : r14 = true
      · simp only [if_pos hq7] at h
        obtain ⟨⟨r20, I21, J22⟩, hq8⟩ : ∃ q, q = fX10_readNumber 1 9 ((wi I15 60 (((32 + (3 * (gi I 60 1))) + 0).toNat) (gi I15 57 13)), J16) := ⟨_, rfl⟩
        rw [← hq8] at h; try simp only at h
        have hl8 : LXP t I21 := moX10_readNumber hq8.symm (by have hb := hl6; unfold LXP LX at hb ⊢; have : gi (wi I15 60 (((32 + (3 * (gi I 60 1))) + 0).toNat) (gi I15 57 13)) 57 3 = gi I15 57 3 := (gi_wi_na _ _ _ _ (by decide)); have : gi (wi I15 60 (((32 + (3 * (gi I 60 1))) + 0).toNat) (gi I15 57 13)) 57 5 = gi I15 57 5 := (gi_wi_na _ _ _ _ (by decide)); have : gi (wi I15 60 (((32 + (3 * (gi I 60 1))) + 0).toNat) (gi I15 57 13)) 60 0 = gi I15 60 0 := (gi_wi_nk _ _ _ (by omega)); have : gi (wi I15 60 (((32 + (3 * (gi I 60 1))) + 0).toNat) (gi I15 57 13)) 60 1 = gi I15 60 1 := (gi_wi_nk _ _ _ (by omega)); have : gi (wi I15 60 (((32 + (3 * (gi I 60 1))) + 0).toNat) (gi I15 57 13)) 59 0 = gi I15 59 0 := (gi_wi_na _ _ _ _ (by decide)); have : gi (wi I15 60 (((32 + (3 * (gi I 60 1))) + 0).toNat) (gi I15 57 13)) 57 24 = gi I15 57 24 := (gi_wi_na _ _ _ _ (by decide)); have : gi (wi I15 60 (((32 + (3 * (gi I 60 1))) + 0).toNat) (gi I15 57 13)) 57 7 = gi I15 57 7 := (gi_wi_na _ _ _ _ (by decide)); omega); have hbhl8 := hl8; unfold LXP LX at hbhl8
        by_cases hq9 : r20 = true
        · simp only [if_pos hq9] at h
          simp only [Prod.mk.injEq] at h
          obtain ⟨-, hI, hJ⟩ := h
          rw [← hI]
          exact (by have hb := hl8; unfold LXP LX at hb ⊢; have : gi (wi (wi I21 60 (((32 + (3 * (gi I 60 1))) + 1).toNat) (gi I21 57 13)) 60 1 ((gi I 60 1) + 1)) 57 3 = gi I21 57 3 := (Eq.trans (gi_wi_na _ _ _ _ (by decide)) (gi_wi_na _ _ _ _ (by decide))); have : gi (wi (wi I21 60 (((32 + (3 * (gi I 60 1))) + 1).toNat) (gi I21 57 13)) 60 1 ((gi I 60 1) + 1)) 57 5 = gi I21 57 5 := (Eq.trans (gi_wi_na _ _ _ _ (by decide)) (gi_wi_na _ _ _ _ (by decide))); have : gi (wi (wi I21 60 (((32 + (3 * (gi I 60 1))) + 1).toNat) (gi I21 57 13)) 60 1 ((gi I 60 1) + 1)) 60 0 = gi I21 60 0 := (Eq.trans (gi_wi_nk _ _ _ (by decide)) (gi_wi_nk _ _ _ (by omega))); have : gi (wi (wi I21 60 (((32 + (3 * (gi I 60 1))) + 1).toNat) (gi I21 57 13)) 60 1 ((gi I 60 1) + 1)) 60 1 = (gi I 60 1) + 1 := (gi_wi_eq (x := (gi I 60 1) + 1) _ _ _ (by have := gi_rng I 60 1; omega)); have : gi (wi (wi I21 60 (((32 + (3 * (gi I 60 1))) + 1).toNat) (gi I21 57 13)) 60 1 ((gi I 60 1) + 1)) 59 0 = gi I21 59 0 := (Eq.trans (gi_wi_na _ _ _ _ (by decide)) (gi_wi_na _ _ _ _ (by decide))); have : gi (wi (wi I21 60 (((32 + (3 * (gi I 60 1))) + 1).toNat) (gi I21 57 13)) 60 1 ((gi I 60 1) + 1)) 57 24 = gi I21 57 24 := (Eq.trans (gi_wi_na _ _ _ _ (by decide)) (gi_wi_na _ _ _ _ (by decide))); have : gi (wi (wi I21 60 (((32 + (3 * (gi I 60 1))) + 1).toNat) (gi I21 57 13)) 60 1 ((gi I 60 1) + 1)) 57 7 = gi I21 57 7 := (Eq.trans (gi_wi_na _ _ _ _ (by decide)) (gi_wi_na _ _ _ _ (by decide))); omega)
        · simp only [if_neg hq9] at h
          simp only [Prod.mk.injEq] at h
          obtain ⟨-, hI, hJ⟩ := h
          rw [← hI]
          exact hl8
      · simp only [if_neg hq7] at h
        simp only [Prod.mk.injEq] at h
        obtain ⟨-, hI, hJ⟩ := h
        rw [← hI]
        exact hl6
    · simp only [if_neg hq5] at h
      simp only [Prod.mk.injEq] at h
      obtain ⟨-, hI, hJ⟩ := h
      rw [← hI]
      exact hl4

theorem moX10_readWhoTold {t : Int} {I : Mi} {J : Mj} {r0 : Bool} {I0 : Mi} {J0 : Mj} (h : fX10_readWhoTold  (I, J) = (r0, I0, J0)) (hl : LXP t I) : LXP t I0 := by
  unfold fX10_readWhoTold at h
  try simp only at h
  have hb0 := hl
  unfold LXP LX at hb0
  by_cases hq1 : gi I 57 7 = 2 ∧ isNm (gj J 57 12) = true
  · simp only [if_pos hq1] at h
    by_cases hq2 : (fd J 64 0 (gi I 60 0)) = (-1)
    · simp only [if_pos hq2] at h
      obtain ⟨⟨r4, I5, J6⟩, hq3⟩ : ∃ q, q = fX10_bad 3 ((wi I 57 13 (fd J 64 0 (gi I 60 0))), J) := ⟨_, rfl⟩
      rw [← hq3] at h; try simp only at h
      have hl3 : LXP t I5 := moX10_bad hq3.symm (by have hb := hl; unfold LXP LX at hb ⊢; have : gi (wi I 57 13 (fd J 64 0 (gi I 60 0))) 57 3 = gi I 57 3 := (gi_wi_nk _ _ _ (by decide)); have : gi (wi I 57 13 (fd J 64 0 (gi I 60 0))) 57 5 = gi I 57 5 := (gi_wi_nk _ _ _ (by decide)); have : gi (wi I 57 13 (fd J 64 0 (gi I 60 0))) 60 0 = gi I 60 0 := (gi_wi_na _ _ _ _ (by decide)); have : gi (wi I 57 13 (fd J 64 0 (gi I 60 0))) 60 1 = gi I 60 1 := (gi_wi_na _ _ _ _ (by decide)); have : gi (wi I 57 13 (fd J 64 0 (gi I 60 0))) 59 0 = gi I 59 0 := (gi_wi_na _ _ _ _ (by decide)); have : gi (wi I 57 13 (fd J 64 0 (gi I 60 0))) 57 24 = gi I 57 24 := (gi_wi_nk _ _ _ (by decide)); have : gi (wi I 57 13 (fd J 64 0 (gi I 60 0))) 57 7 = gi I 57 7 := (gi_wi_nk _ _ _ (by decide)); omega); have hbhl3 := hl3; unfold LXP LX at hbhl3
      by_cases hq4 : r4 = true
      · simp only [if_pos hq4] at h
        simp only [Prod.mk.injEq] at h
        obtain ⟨-, hI, hJ⟩ := h
        rw [← hI]
        exact hl3
      · simp only [if_neg hq4] at h
        simp only [Prod.mk.injEq] at h
        obtain ⟨-, hI, hJ⟩ := h
        rw [← hI]
        exact hl3
    · simp only [if_neg hq2] at h
      simp only [Prod.mk.injEq] at h
      obtain ⟨-, hI, hJ⟩ := h
      rw [← hI]
      exact (by have hb := hl; unfold LXP LX at hb ⊢; have : gi (wi I 57 13 (fd J 64 0 (gi I 60 0))) 57 3 = gi I 57 3 := (gi_wi_nk _ _ _ (by decide)); have : gi (wi I 57 13 (fd J 64 0 (gi I 60 0))) 57 5 = gi I 57 5 := (gi_wi_nk _ _ _ (by decide)); have : gi (wi I 57 13 (fd J 64 0 (gi I 60 0))) 60 0 = gi I 60 0 := (gi_wi_na _ _ _ _ (by decide)); have : gi (wi I 57 13 (fd J 64 0 (gi I 60 0))) 60 1 = gi I 60 1 := (gi_wi_na _ _ _ _ (by decide)); have : gi (wi I 57 13 (fd J 64 0 (gi I 60 0))) 59 0 = gi I 59 0 := (gi_wi_na _ _ _ _ (by decide)); have : gi (wi I 57 13 (fd J 64 0 (gi I 60 0))) 57 24 = gi I 57 24 := (gi_wi_nk _ _ _ (by decide)); have : gi (wi I 57 13 (fd J 64 0 (gi I 60 0))) 57 7 = gi I 57 7 := (gi_wi_nk _ _ _ (by decide)); omega)
  · simp only [if_neg hq1] at h
    obtain ⟨⟨r12, I13, J14⟩, hq5⟩ : ∃ q, q = fX10_bad 1 (I, J) := ⟨_, rfl⟩
    rw [← hq5] at h; try simp only at h
    have hl5 : LXP t I13 := moX10_bad hq5.symm hl; have hbhl5 := hl5; unfold LXP LX at hbhl5
    simp only [Prod.mk.injEq] at h
    obtain ⟨-, hI, hJ⟩ := h
    rw [← hI]
    exact hl5

theorem moX10_readOnce0 {t : Int} {I : Mi} {J : Mj} {r0 : Bool} {I0 : Mi} {J0 : Mj} (h : fX10_readOnce0  (I, J) = (r0, I0, J0)) (hl : LXP t I) : LXP t I0 := by
  unfold fX10_readOnce0 at h
  try simp only at h
  have hb0 := hl
  unfold LXP LX at hb0
  by_cases hq1 : (gi I 57 24) / 1 % 2 = 1
  · simp only [if_pos hq1] at h
    obtain ⟨⟨r15, I16, J17⟩, hq2⟩ : ∃ q, q = fX10_bad 3 (I, J) := ⟨_, rfl⟩
    rw [← hq2] at h; try simp only at h
    have hl2 : LXP t I16 := moX10_bad hq2.symm hl; have hbhl2 := hl2; unfold LXP LX at hbhl2
    simp only [Prod.mk.injEq] at h
    obtain ⟨-, hI, hJ⟩ := h
    rw [← hI]
    exact hl2
  · simp only [if_neg hq1] at h
    obtain ⟨⟨r2, I3, J4⟩, hq3⟩ : ∃ q, q = fX10_go ((wi I 57 24 ((gi I 57 24) + 1)), J) := ⟨_, rfl⟩
    rw [← hq3] at h; try simp only at h
    have hl3 : LXP t I3 := moX10_go hq3.symm (by have hb := hl; unfold LXP LX at hb ⊢; have : gi (wi I 57 24 ((gi I 57 24) + 1)) 57 3 = gi I 57 3 := (gi_wi_nk _ _ _ (by decide)); have : gi (wi I 57 24 ((gi I 57 24) + 1)) 57 5 = gi I 57 5 := (gi_wi_nk _ _ _ (by decide)); have : gi (wi I 57 24 ((gi I 57 24) + 1)) 60 0 = gi I 60 0 := (gi_wi_na _ _ _ _ (by decide)); have : gi (wi I 57 24 ((gi I 57 24) + 1)) 60 1 = gi I 60 1 := (gi_wi_na _ _ _ _ (by decide)); have : gi (wi I 57 24 ((gi I 57 24) + 1)) 59 0 = gi I 59 0 := (gi_wi_na _ _ _ _ (by decide)); have : gi (wi I 57 24 ((gi I 57 24) + 1)) 57 24 = (gi I 57 24) + 1 := (gi_wi_eq (x := (gi I 57 24) + 1) _ _ _ (by have := gi_rng I 57 24; omega)); have : gi (wi I 57 24 ((gi I 57 24) + 1)) 57 7 = gi I 57 7 := (gi_wi_nk _ _ _ (by decide)); omega); have hbhl3 := hl3; unfold LXP LX at hbhl3
    obtain ⟨⟨r7, I8, J9⟩, hq4⟩ : ∃ q, q = fX10_readNumber 0 100 (I3, J4) := ⟨_, rfl⟩
    rw [← hq4] at h; try simp only at h
    have hl4 : LXP t I8 := moX10_readNumber hq4.symm hl3; have hbhl4 := hl4; unfold LXP LX at hbhl4
    by_cases hq5 : r7 = true
    · simp only [if_pos hq5] at h
      simp only [Prod.mk.injEq] at h
      obtain ⟨-, hI, hJ⟩ := h
      rw [← hI]
      exact (by have hb := hl4; unfold LXP LX at hb ⊢; have : gi (wi I8 60 3 (gi I8 57 13)) 57 3 = gi I8 57 3 := (gi_wi_na _ _ _ _ (by decide)); have : gi (wi I8 60 3 (gi I8 57 13)) 57 5 = gi I8 57 5 := (gi_wi_na _ _ _ _ (by decide)); have : gi (wi I8 60 3 (gi I8 57 13)) 60 0 = gi I8 60 0 := (gi_wi_nk _ _ _ (by decide)); have : gi (wi I8 60 3 (gi I8 57 13)) 60 1 = gi I8 60 1 := (gi_wi_nk _ _ _ (by decide)); have : gi (wi I8 60 3 (gi I8 57 13)) 59 0 = gi I8 59 0 := (gi_wi_na _ _ _ _ (by decide)); have : gi (wi I8 60 3 (gi I8 57 13)) 57 24 = gi I8 57 24 := (gi_wi_na _ _ _ _ (by decide)); have : gi (wi I8 60 3 (gi I8 57 13)) 57 7 = gi I8 57 7 := (gi_wi_na _ _ _ _ (by decide)); omega)
    · simp only [if_neg hq5] at h
      simp only [Prod.mk.injEq] at h
      obtain ⟨-, hI, hJ⟩ := h
      rw [← hI]
      exact hl4

theorem moX10_readOnce1 {t : Int} {I : Mi} {J : Mj} {r0 : Bool} {I0 : Mi} {J0 : Mj} (h : fX10_readOnce1  (I, J) = (r0, I0, J0)) (hl : LXP t I) : LXP t I0 := by
  unfold fX10_readOnce1 at h
  try simp only at h
  have hb0 := hl
  unfold LXP LX at hb0
  by_cases hq1 : (gi I 57 24) / 2 % 2 = 1
  · simp only [if_pos hq1] at h
    obtain ⟨⟨r15, I16, J17⟩, hq2⟩ : ∃ q, q = fX10_bad 3 (I, J) := ⟨_, rfl⟩
    rw [← hq2] at h; try simp only at h
    have hl2 : LXP t I16 := moX10_bad hq2.symm hl; have hbhl2 := hl2; unfold LXP LX at hbhl2
    simp only [Prod.mk.injEq] at h
    obtain ⟨-, hI, hJ⟩ := h
    rw [← hI]
    exact hl2
  · simp only [if_neg hq1] at h
    obtain ⟨⟨r2, I3, J4⟩, hq3⟩ : ∃ q, q = fX10_go ((wi I 57 24 ((gi I 57 24) + 2)), J) := ⟨_, rfl⟩
    rw [← hq3] at h; try simp only at h
    have hl3 : LXP t I3 := moX10_go hq3.symm (by have hb := hl; unfold LXP LX at hb ⊢; have : gi (wi I 57 24 ((gi I 57 24) + 2)) 57 3 = gi I 57 3 := (gi_wi_nk _ _ _ (by decide)); have : gi (wi I 57 24 ((gi I 57 24) + 2)) 57 5 = gi I 57 5 := (gi_wi_nk _ _ _ (by decide)); have : gi (wi I 57 24 ((gi I 57 24) + 2)) 60 0 = gi I 60 0 := (gi_wi_na _ _ _ _ (by decide)); have : gi (wi I 57 24 ((gi I 57 24) + 2)) 60 1 = gi I 60 1 := (gi_wi_na _ _ _ _ (by decide)); have : gi (wi I 57 24 ((gi I 57 24) + 2)) 59 0 = gi I 59 0 := (gi_wi_na _ _ _ _ (by decide)); have : gi (wi I 57 24 ((gi I 57 24) + 2)) 57 24 = (gi I 57 24) + 2 := (gi_wi_eq (x := (gi I 57 24) + 2) _ _ _ (by have := gi_rng I 57 24; omega)); have : gi (wi I 57 24 ((gi I 57 24) + 2)) 57 7 = gi I 57 7 := (gi_wi_nk _ _ _ (by decide)); omega); have hbhl3 := hl3; unfold LXP LX at hbhl3
    obtain ⟨⟨r7, I8, J9⟩, hq4⟩ : ∃ q, q = fX10_readNumber 0 200 (I3, J4) := ⟨_, rfl⟩
    rw [← hq4] at h; try simp only at h
    have hl4 : LXP t I8 := moX10_readNumber hq4.symm hl3; have hbhl4 := hl4; unfold LXP LX at hbhl4
    by_cases hq5 : r7 = true
    · simp only [if_pos hq5] at h
      simp only [Prod.mk.injEq] at h
      obtain ⟨-, hI, hJ⟩ := h
      rw [← hI]
      exact (by have hb := hl4; unfold LXP LX at hb ⊢; have : gi (wi I8 60 4 (gi I8 57 13)) 57 3 = gi I8 57 3 := (gi_wi_na _ _ _ _ (by decide)); have : gi (wi I8 60 4 (gi I8 57 13)) 57 5 = gi I8 57 5 := (gi_wi_na _ _ _ _ (by decide)); have : gi (wi I8 60 4 (gi I8 57 13)) 60 0 = gi I8 60 0 := (gi_wi_nk _ _ _ (by decide)); have : gi (wi I8 60 4 (gi I8 57 13)) 60 1 = gi I8 60 1 := (gi_wi_nk _ _ _ (by decide)); have : gi (wi I8 60 4 (gi I8 57 13)) 59 0 = gi I8 59 0 := (gi_wi_na _ _ _ _ (by decide)); have : gi (wi I8 60 4 (gi I8 57 13)) 57 24 = gi I8 57 24 := (gi_wi_na _ _ _ _ (by decide)); have : gi (wi I8 60 4 (gi I8 57 13)) 57 7 = gi I8 57 7 := (gi_wi_na _ _ _ _ (by decide)); omega)
    · simp only [if_neg hq5] at h
      simp only [Prod.mk.injEq] at h
      obtain ⟨-, hI, hJ⟩ := h
      rw [← hI]
      exact hl4

theorem moX10_readOnce2 {t : Int} {I : Mi} {J : Mj} {r0 : Bool} {I0 : Mi} {J0 : Mj} (h : fX10_readOnce2  (I, J) = (r0, I0, J0)) (hl : LXP t I) : LXP t I0 := by
  unfold fX10_readOnce2 at h
  try simp only at h
  have hb0 := hl
  unfold LXP LX at hb0
  by_cases hq1 : (gi I 57 24) / 4 % 2 = 1
  · simp only [if_pos hq1] at h
    obtain ⟨⟨r15, I16, J17⟩, hq2⟩ : ∃ q, q = fX10_bad 3 (I, J) := ⟨_, rfl⟩
    rw [← hq2] at h; try simp only at h
    have hl2 : LXP t I16 := moX10_bad hq2.symm hl; have hbhl2 := hl2; unfold LXP LX at hbhl2
    simp only [Prod.mk.injEq] at h
    obtain ⟨-, hI, hJ⟩ := h
    rw [← hI]
    exact hl2
  · simp only [if_neg hq1] at h
    obtain ⟨⟨r2, I3, J4⟩, hq3⟩ : ∃ q, q = fX10_go ((wi I 57 24 ((gi I 57 24) + 4)), J) := ⟨_, rfl⟩
    rw [← hq3] at h; try simp only at h
    have hl3 : LXP t I3 := moX10_go hq3.symm (by have hb := hl; unfold LXP LX at hb ⊢; have : gi (wi I 57 24 ((gi I 57 24) + 4)) 57 3 = gi I 57 3 := (gi_wi_nk _ _ _ (by decide)); have : gi (wi I 57 24 ((gi I 57 24) + 4)) 57 5 = gi I 57 5 := (gi_wi_nk _ _ _ (by decide)); have : gi (wi I 57 24 ((gi I 57 24) + 4)) 60 0 = gi I 60 0 := (gi_wi_na _ _ _ _ (by decide)); have : gi (wi I 57 24 ((gi I 57 24) + 4)) 60 1 = gi I 60 1 := (gi_wi_na _ _ _ _ (by decide)); have : gi (wi I 57 24 ((gi I 57 24) + 4)) 59 0 = gi I 59 0 := (gi_wi_na _ _ _ _ (by decide)); have : gi (wi I 57 24 ((gi I 57 24) + 4)) 57 24 = (gi I 57 24) + 4 := (gi_wi_eq (x := (gi I 57 24) + 4) _ _ _ (by have := gi_rng I 57 24; omega)); have : gi (wi I 57 24 ((gi I 57 24) + 4)) 57 7 = gi I 57 7 := (gi_wi_nk _ _ _ (by decide)); omega); have hbhl3 := hl3; unfold LXP LX at hbhl3
    obtain ⟨⟨r7, I8, J9⟩, hq4⟩ : ∃ q, q = fX10_readNumber 1 999 (I3, J4) := ⟨_, rfl⟩
    rw [← hq4] at h; try simp only at h
    have hl4 : LXP t I8 := moX10_readNumber hq4.symm hl3; have hbhl4 := hl4; unfold LXP LX at hbhl4
    by_cases hq5 : r7 = true
    · simp only [if_pos hq5] at h
      simp only [Prod.mk.injEq] at h
      obtain ⟨-, hI, hJ⟩ := h
      rw [← hI]
      exact (by have hb := hl4; unfold LXP LX at hb ⊢; have : gi (wi I8 60 5 (gi I8 57 13)) 57 3 = gi I8 57 3 := (gi_wi_na _ _ _ _ (by decide)); have : gi (wi I8 60 5 (gi I8 57 13)) 57 5 = gi I8 57 5 := (gi_wi_na _ _ _ _ (by decide)); have : gi (wi I8 60 5 (gi I8 57 13)) 60 0 = gi I8 60 0 := (gi_wi_nk _ _ _ (by decide)); have : gi (wi I8 60 5 (gi I8 57 13)) 60 1 = gi I8 60 1 := (gi_wi_nk _ _ _ (by decide)); have : gi (wi I8 60 5 (gi I8 57 13)) 59 0 = gi I8 59 0 := (gi_wi_na _ _ _ _ (by decide)); have : gi (wi I8 60 5 (gi I8 57 13)) 57 24 = gi I8 57 24 := (gi_wi_na _ _ _ _ (by decide)); have : gi (wi I8 60 5 (gi I8 57 13)) 57 7 = gi I8 57 7 := (gi_wi_na _ _ _ _ (by decide)); omega)
    · simp only [if_neg hq5] at h
      simp only [Prod.mk.injEq] at h
      obtain ⟨-, hI, hJ⟩ := h
      rw [← hI]
      exact hl4

theorem moX10_readOnce3 {t : Int} {I : Mi} {J : Mj} {r0 : Bool} {I0 : Mi} {J0 : Mj} (h : fX10_readOnce3  (I, J) = (r0, I0, J0)) (hl : LXP t I) : LXP t I0 := by
  unfold fX10_readOnce3 at h
  try simp only at h
  have hb0 := hl
  unfold LXP LX at hb0
  by_cases hq1 : (gi I 57 24) / 8 % 2 = 1
  · simp only [if_pos hq1] at h
    obtain ⟨⟨r15, I16, J17⟩, hq2⟩ : ∃ q, q = fX10_bad 3 (I, J) := ⟨_, rfl⟩
    rw [← hq2] at h; try simp only at h
    have hl2 : LXP t I16 := moX10_bad hq2.symm hl; have hbhl2 := hl2; unfold LXP LX at hbhl2
    simp only [Prod.mk.injEq] at h
    obtain ⟨-, hI, hJ⟩ := h
    rw [← hI]
    exact hl2
  · simp only [if_neg hq1] at h
    obtain ⟨⟨r2, I3, J4⟩, hq3⟩ : ∃ q, q = fX10_go ((wi I 57 24 ((gi I 57 24) + 8)), J) := ⟨_, rfl⟩
    rw [← hq3] at h; try simp only at h
    have hl3 : LXP t I3 := moX10_go hq3.symm (by have hb := hl; unfold LXP LX at hb ⊢; have : gi (wi I 57 24 ((gi I 57 24) + 8)) 57 3 = gi I 57 3 := (gi_wi_nk _ _ _ (by decide)); have : gi (wi I 57 24 ((gi I 57 24) + 8)) 57 5 = gi I 57 5 := (gi_wi_nk _ _ _ (by decide)); have : gi (wi I 57 24 ((gi I 57 24) + 8)) 60 0 = gi I 60 0 := (gi_wi_na _ _ _ _ (by decide)); have : gi (wi I 57 24 ((gi I 57 24) + 8)) 60 1 = gi I 60 1 := (gi_wi_na _ _ _ _ (by decide)); have : gi (wi I 57 24 ((gi I 57 24) + 8)) 59 0 = gi I 59 0 := (gi_wi_na _ _ _ _ (by decide)); have : gi (wi I 57 24 ((gi I 57 24) + 8)) 57 24 = (gi I 57 24) + 8 := (gi_wi_eq (x := (gi I 57 24) + 8) _ _ _ (by have := gi_rng I 57 24; omega)); have : gi (wi I 57 24 ((gi I 57 24) + 8)) 57 7 = gi I 57 7 := (gi_wi_nk _ _ _ (by decide)); omega); have hbhl3 := hl3; unfold LXP LX at hbhl3
    obtain ⟨⟨r7, I8, J9⟩, hq4⟩ : ∃ q, q = fX10_readNumber 1 9 (I3, J4) := ⟨_, rfl⟩
    rw [← hq4] at h; try simp only at h
    have hl4 : LXP t I8 := moX10_readNumber hq4.symm hl3; have hbhl4 := hl4; unfold LXP LX at hbhl4
    by_cases hq5 : r7 = true
    · simp only [if_pos hq5] at h
      simp only [Prod.mk.injEq] at h
      obtain ⟨-, hI, hJ⟩ := h
      rw [← hI]
      exact (by have hb := hl4; unfold LXP LX at hb ⊢; have : gi (wi I8 60 6 (gi I8 57 13)) 57 3 = gi I8 57 3 := (gi_wi_na _ _ _ _ (by decide)); have : gi (wi I8 60 6 (gi I8 57 13)) 57 5 = gi I8 57 5 := (gi_wi_na _ _ _ _ (by decide)); have : gi (wi I8 60 6 (gi I8 57 13)) 60 0 = gi I8 60 0 := (gi_wi_nk _ _ _ (by decide)); have : gi (wi I8 60 6 (gi I8 57 13)) 60 1 = gi I8 60 1 := (gi_wi_nk _ _ _ (by decide)); have : gi (wi I8 60 6 (gi I8 57 13)) 59 0 = gi I8 59 0 := (gi_wi_na _ _ _ _ (by decide)); have : gi (wi I8 60 6 (gi I8 57 13)) 57 24 = gi I8 57 24 := (gi_wi_na _ _ _ _ (by decide)); have : gi (wi I8 60 6 (gi I8 57 13)) 57 7 = gi I8 57 7 := (gi_wi_na _ _ _ _ (by decide)); omega)
    · simp only [if_neg hq5] at h
      simp only [Prod.mk.injEq] at h
      obtain ⟨-, hI, hJ⟩ := h
      rw [← hI]
      exact hl4

theorem moX10_readTakes {t : Int} {I : Mi} {J : Mj} {r0 : Bool} {I0 : Mi} {J0 : Mj} (h : fX10_readTakes  (I, J) = (r0, I0, J0)) (hl : LXP t I) : LXP t I0 := by
  unfold fX10_readTakes at h
  try simp only at h
  have hb0 := hl
  unfold LXP LX at hb0
  obtain ⟨⟨r1, I2, J3⟩, hq1⟩ : ∃ q, q = fX10_go (I, J) := ⟨_, rfl⟩
  rw [← hq1] at h; try simp only at h
  have hl1 : LXP t I2 := moX10_go hq1.symm hl; have hbhl1 := hl1; unfold LXP LX at hbhl1
  obtain ⟨⟨r6, I7, J8⟩, hq2⟩ : ∃ q, q = fX10_readWhoTold (I2, J3) := ⟨_, rfl⟩
  rw [← hq2] at h; try simp only at h
  have hl2 : LXP t I7 := moX10_readWhoTold hq2.symm hl1; have hbhl2 := hl2; unfold LXP LX at hbhl2
  by_cases hq3 : r6 = true
  · simp only [if_pos hq3] at h
    have hthq3 := rwt_told hq2.symm hq3
    obtain ⟨⟨r13, I14, J15⟩, hq4⟩ : ∃ q, q = fX10_go (I7, J8) := ⟨_, rfl⟩
    rw [← hq4] at h; try simp only at h
    have hl4 : LXP t I14 := moX10_go hq4.symm hl2; have hbhl4 := hl4; unfold LXP LX at hbhl4
    obtain ⟨⟨r18, I19, J20⟩, hq5⟩ : ∃ q, q = fX10_readWhoTold (I14, J15) := ⟨_, rfl⟩
    rw [← hq5] at h; try simp only at h
    have hl5 : LXP t I19 := moX10_readWhoTold hq5.symm hl4; have hbhl5 := hl5; unfold LXP LX at hbhl5
    by_cases hq6 : r18 = true
    · simp only [if_pos hq6] at h
      have hthq6 := rwt_told hq5.symm hq6
      obtain ⟨x25, hq7⟩ : ∃ q, q = (44 + (8 * (gi I7 57 13))) + (gi I19 57 13) := ⟨_, rfl⟩
      try rw [← hq7] at h
      try simp only at h
      by_cases hq8 : (gi I 60 ((x25).toNat)) ≤ 0
      · simp only [if_pos hq8] at h
        obtain ⟨⟨r27, I28, J29⟩, hq9⟩ : ∃ q, q = fX10_go (I19, J20) := ⟨_, rfl⟩
        rw [← hq9] at h; try simp only at h
        have hl9 : LXP t I28 := moX10_go hq9.symm hl5; have hbhl9 := hl9; unfold LXP LX at hbhl9
        obtain ⟨⟨r32, I33, J34⟩, hq10⟩ : ∃ q, q = fX10_readNumber 0 200 (I28, J29) := ⟨_, rfl⟩
        rw [← hq10] at h; try simp only at h
        have hl10 : LXP t I33 := moX10_readNumber hq10.symm hl9; have hbhl10 := hl10; unfold LXP LX at hbhl10
        by_cases hq11 : r32 = true
        · simp only [if_pos hq11] at h
          simp only [Prod.mk.injEq] at h
          obtain ⟨-, hI, hJ⟩ := h
          rw [← hI]
          exact (by have hb := hl10; unfold LXP LX at hb ⊢; have : gi (wi (wi I33 60 ((x25).toNat) ((gi I33 57 13) + 1)) 60 2 ((gi I 60 2) + 1)) 57 3 = gi I33 57 3 := (Eq.trans (gi_wi_na _ _ _ _ (by decide)) (gi_wi_na _ _ _ _ (by decide))); have : gi (wi (wi I33 60 ((x25).toNat) ((gi I33 57 13) + 1)) 60 2 ((gi I 60 2) + 1)) 57 5 = gi I33 57 5 := (Eq.trans (gi_wi_na _ _ _ _ (by decide)) (gi_wi_na _ _ _ _ (by decide))); have : gi (wi (wi I33 60 ((x25).toNat) ((gi I33 57 13) + 1)) 60 2 ((gi I 60 2) + 1)) 60 0 = gi I33 60 0 := (Eq.trans (gi_wi_nk _ _ _ (by decide)) (gi_wi_nk _ _ _ (by omega))); have : gi (wi (wi I33 60 ((x25).toNat) ((gi I33 57 13) + 1)) 60 2 ((gi I 60 2) + 1)) 60 1 = gi I33 60 1 := (Eq.trans (gi_wi_nk _ _ _ (by decide)) (gi_wi_nk _ _ _ (by omega))); have : gi (wi (wi I33 60 ((x25).toNat) ((gi I33 57 13) + 1)) 60 2 ((gi I 60 2) + 1)) 59 0 = gi I33 59 0 := (Eq.trans (gi_wi_na _ _ _ _ (by decide)) (gi_wi_na _ _ _ _ (by decide))); have : gi (wi (wi I33 60 ((x25).toNat) ((gi I33 57 13) + 1)) 60 2 ((gi I 60 2) + 1)) 57 24 = gi I33 57 24 := (Eq.trans (gi_wi_na _ _ _ _ (by decide)) (gi_wi_na _ _ _ _ (by decide))); have : gi (wi (wi I33 60 ((x25).toNat) ((gi I33 57 13) + 1)) 60 2 ((gi I 60 2) + 1)) 57 7 = gi I33 57 7 := (Eq.trans (gi_wi_na _ _ _ _ (by decide)) (gi_wi_na _ _ _ _ (by decide))); omega)
        · simp only [if_neg hq11] at h
          simp only [Prod.mk.injEq] at h
          obtain ⟨-, hI, hJ⟩ := h
          rw [← hI]
          exact hl10
      · simp only [if_neg hq8] at h
        obtain ⟨⟨r40, I41, J42⟩, hq12⟩ : ∃ q, q = fX10_bad 3 (I19, J20) := ⟨_, rfl⟩
        rw [← hq12] at h; try simp only at h
        have hl12 : LXP t I41 := moX10_bad hq12.symm hl5; have hbhl12 := hl12; unfold LXP LX at hbhl12
        simp only [Prod.mk.injEq] at h
        obtain ⟨-, hI, hJ⟩ := h
        rw [← hI]
        exact hl12
    · simp only [if_neg hq6] at h
      simp only [Prod.mk.injEq] at h
      obtain ⟨-, hI, hJ⟩ := h
      rw [← hI]
      exact hl5
  · simp only [if_neg hq3] at h
    simp only [Prod.mk.injEq] at h
    obtain ⟨-, hI, hJ⟩ := h
    rw [← hI]
    exact hl2

theorem readEnd_lt {t : Int} {I : Mi} {J : Mj} {r0 : Bool} {I0 : Mi} {J0 : Mj} (h : fX10_readEnd (I, J) = (r0, I0, J0)) (hr : r0 = true) (hl : LXP t I) : t < gi I0 57 5 := by
  unfold fX10_readEnd at h
  simp only at h
  split at h
  · rename_i h4
    obtain ⟨⟨r2, I2, J2⟩, hq⟩ : ∃ q, q = fX10_go (I, J) := ⟨_, rfl⟩
    rw [← hq] at h
    simp only [Prod.mk.injEq] at h
    obtain ⟨-, hI, -⟩ := h
    have h5 := hl.2.2 h4.1
    have h1 := (moX10_go1 (t := t + 1) hq.symm hl.1 (by omega)).1
    rw [← hI]; omega
  · obtain ⟨⟨r2, I2, J2⟩, hq⟩ : ∃ q, q = fX10_bad 1 (I, J) := ⟨_, rfl⟩
    rw [← hq] at h
    have := bad_f hq.symm
    subst this
    simp at h
    rw [hr] at h; simp at h

theorem readLine_lt {I : Mi} {J : Mj} {r0 : Bool} {I0 : Mi} {J0 : Mj} (h : fX10_readLine (I, J) = (r0, I0, J0)) (hr : r0 = true) (hl : LX I) : gi I 57 5 < gi I0 57 5 := by
  unfold fX10_readLine at h
  simp only at h
  by_cases c0 : gi I 57 7 = 2 ∧ gj J 57 12 = wt 0
  · simp only [if_pos c0] at h
    have hP : LXP (gi I 57 5) I := ⟨hl, Int.le_refl _, fun q => absurd q (by omega)⟩
    obtain ⟨⟨r1, I1, J1⟩, hq1⟩ : ∃ q, q = fX10_readWho (I, J) := ⟨_, rfl⟩
    rw [← hq1] at h; simp only at h
    have hm := moX10_readWho hq1.symm hP
    by_cases hr1 : r1 = true
    · simp only [if_pos hr1] at h
      obtain ⟨⟨r2, I2, J2⟩, hq2⟩ : ∃ q, q = fX10_readEnd (I1, J1) := ⟨_, rfl⟩
      rw [← hq2] at h; simp only at h
      by_cases hr2 : r2 = true
      · simp only [if_pos hr2, Prod.mk.injEq] at h; rw [← h.2.1]; exact readEnd_lt hq2.symm hr2 hm
      · simp only [if_neg hr2, Prod.mk.injEq] at h; rw [hr] at h; exact absurd h.1 (by decide)
    · simp only [if_neg hr1, Prod.mk.injEq] at h; rw [hr] at h; exact absurd h.1 (by decide)
  · simp only [if_neg c0] at h
    by_cases c1 : gi I 57 7 = 2 ∧ gj J 57 12 = wt 3
    · simp only [if_pos c1] at h
      have hP : LXP (gi I 57 5) I := ⟨hl, Int.le_refl _, fun q => absurd q (by omega)⟩
      obtain ⟨⟨r1, I1, J1⟩, hq1⟩ : ∃ q, q = fX10_readMint (I, J) := ⟨_, rfl⟩
      rw [← hq1] at h; simp only at h
      have hm := moX10_readMint hq1.symm hP
      by_cases hr1 : r1 = true
      · simp only [if_pos hr1] at h
        obtain ⟨⟨r2, I2, J2⟩, hq2⟩ : ∃ q, q = fX10_readEnd (I1, J1) := ⟨_, rfl⟩
        rw [← hq2] at h; simp only at h
        by_cases hr2 : r2 = true
        · simp only [if_pos hr2, Prod.mk.injEq] at h; rw [← h.2.1]; exact readEnd_lt hq2.symm hr2 hm
        · simp only [if_neg hr2, Prod.mk.injEq] at h; rw [hr] at h; exact absurd h.1 (by decide)
      · simp only [if_neg hr1, Prod.mk.injEq] at h; rw [hr] at h; exact absurd h.1 (by decide)
    · simp only [if_neg c1] at h
      by_cases c2 : gi I 57 7 = 2 ∧ gj J 57 12 = wt 4
      · simp only [if_pos c2] at h
        have hP : LXP (gi I 57 5) I := ⟨hl, Int.le_refl _, fun q => absurd q (by omega)⟩
        obtain ⟨⟨r1, I1, J1⟩, hq1⟩ : ∃ q, q = fX10_readTakes (I, J) := ⟨_, rfl⟩
        rw [← hq1] at h; simp only at h
        have hm := moX10_readTakes hq1.symm hP
        by_cases hr1 : r1 = true
        · simp only [if_pos hr1] at h
          obtain ⟨⟨r2, I2, J2⟩, hq2⟩ : ∃ q, q = fX10_readEnd (I1, J1) := ⟨_, rfl⟩
          rw [← hq2] at h; simp only at h
          by_cases hr2 : r2 = true
          · simp only [if_pos hr2, Prod.mk.injEq] at h; rw [← h.2.1]; exact readEnd_lt hq2.symm hr2 hm
          · simp only [if_neg hr2, Prod.mk.injEq] at h; rw [hr] at h; exact absurd h.1 (by decide)
        · simp only [if_neg hr1, Prod.mk.injEq] at h; rw [hr] at h; exact absurd h.1 (by decide)
      · simp only [if_neg c2] at h
        by_cases c3 : gi I 57 7 = 2 ∧ gj J 57 12 = wt 5
        · simp only [if_pos c3] at h
          have hP : LXP (gi I 57 5) I := ⟨hl, Int.le_refl _, fun q => absurd q (by omega)⟩
          obtain ⟨⟨r1, I1, J1⟩, hq1⟩ : ∃ q, q = fX10_readOnce0 (I, J) := ⟨_, rfl⟩
          rw [← hq1] at h; simp only at h
          have hm := moX10_readOnce0 hq1.symm hP
          by_cases hr1 : r1 = true
          · simp only [if_pos hr1] at h
            obtain ⟨⟨r2, I2, J2⟩, hq2⟩ : ∃ q, q = fX10_readEnd (I1, J1) := ⟨_, rfl⟩
            rw [← hq2] at h; simp only at h
            by_cases hr2 : r2 = true
            · simp only [if_pos hr2, Prod.mk.injEq] at h; rw [← h.2.1]; exact readEnd_lt hq2.symm hr2 hm
            · simp only [if_neg hr2, Prod.mk.injEq] at h; rw [hr] at h; exact absurd h.1 (by decide)
          · simp only [if_neg hr1, Prod.mk.injEq] at h; rw [hr] at h; exact absurd h.1 (by decide)
        · simp only [if_neg c3] at h
          by_cases c4 : gi I 57 7 = 2 ∧ gj J 57 12 = wt 6
          · simp only [if_pos c4] at h
            have hP : LXP (gi I 57 5) I := ⟨hl, Int.le_refl _, fun q => absurd q (by omega)⟩
            obtain ⟨⟨r1, I1, J1⟩, hq1⟩ : ∃ q, q = fX10_readOnce1 (I, J) := ⟨_, rfl⟩
            rw [← hq1] at h; simp only at h
            have hm := moX10_readOnce1 hq1.symm hP
            by_cases hr1 : r1 = true
            · simp only [if_pos hr1] at h
              obtain ⟨⟨r2, I2, J2⟩, hq2⟩ : ∃ q, q = fX10_readEnd (I1, J1) := ⟨_, rfl⟩
              rw [← hq2] at h; simp only at h
              by_cases hr2 : r2 = true
              · simp only [if_pos hr2, Prod.mk.injEq] at h; rw [← h.2.1]; exact readEnd_lt hq2.symm hr2 hm
              · simp only [if_neg hr2, Prod.mk.injEq] at h; rw [hr] at h; exact absurd h.1 (by decide)
            · simp only [if_neg hr1, Prod.mk.injEq] at h; rw [hr] at h; exact absurd h.1 (by decide)
          · simp only [if_neg c4] at h
            by_cases c5 : gi I 57 7 = 2 ∧ gj J 57 12 = wt 7
            · simp only [if_pos c5] at h
              have hP : LXP (gi I 57 5) I := ⟨hl, Int.le_refl _, fun q => absurd q (by omega)⟩
              obtain ⟨⟨r1, I1, J1⟩, hq1⟩ : ∃ q, q = fX10_readOnce2 (I, J) := ⟨_, rfl⟩
              rw [← hq1] at h; simp only at h
              have hm := moX10_readOnce2 hq1.symm hP
              by_cases hr1 : r1 = true
              · simp only [if_pos hr1] at h
                obtain ⟨⟨r2, I2, J2⟩, hq2⟩ : ∃ q, q = fX10_readEnd (I1, J1) := ⟨_, rfl⟩
                rw [← hq2] at h; simp only at h
                by_cases hr2 : r2 = true
                · simp only [if_pos hr2, Prod.mk.injEq] at h; rw [← h.2.1]; exact readEnd_lt hq2.symm hr2 hm
                · simp only [if_neg hr2, Prod.mk.injEq] at h; rw [hr] at h; exact absurd h.1 (by decide)
              · simp only [if_neg hr1, Prod.mk.injEq] at h; rw [hr] at h; exact absurd h.1 (by decide)
            · simp only [if_neg c5] at h
              by_cases c6 : gi I 57 7 = 2 ∧ gj J 57 12 = wt 8
              · simp only [if_pos c6] at h
                have hP : LXP (gi I 57 5) I := ⟨hl, Int.le_refl _, fun q => absurd q (by omega)⟩
                obtain ⟨⟨r1, I1, J1⟩, hq1⟩ : ∃ q, q = fX10_readOnce3 (I, J) := ⟨_, rfl⟩
                rw [← hq1] at h; simp only at h
                have hm := moX10_readOnce3 hq1.symm hP
                by_cases hr1 : r1 = true
                · simp only [if_pos hr1] at h
                  obtain ⟨⟨r2, I2, J2⟩, hq2⟩ : ∃ q, q = fX10_readEnd (I1, J1) := ⟨_, rfl⟩
                  rw [← hq2] at h; simp only at h
                  by_cases hr2 : r2 = true
                  · simp only [if_pos hr2, Prod.mk.injEq] at h; rw [← h.2.1]; exact readEnd_lt hq2.symm hr2 hm
                  · simp only [if_neg hr2, Prod.mk.injEq] at h; rw [hr] at h; exact absurd h.1 (by decide)
                · simp only [if_neg hr1, Prod.mk.injEq] at h; rw [hr] at h; exact absurd h.1 (by decide)
              · simp only [if_neg c6] at h
                obtain ⟨⟨r1, I1, J1⟩, hq1⟩ : ∃ q, q = fX10_bad 1 (I, J) := ⟨_, rfl⟩
                rw [← hq1] at h; simp only at h
                have hb := bad_f hq1.symm
                rw [if_neg (by rw [hb]; decide)] at h; simp only [Prod.mk.injEq] at h; rw [hr] at h; exact absurd h.1 (by decide)
theorem gi_fl_e {I : Mi} {a : Nat} {d v n : Int} {j : Nat} (hv : -2147483648 ≤ v ∧ v < 2147483648) (h : d ≤ (j : Int) ∧ (j : Int) < d + n) : gi (fl I a d v n) a j = v := by
  unfold fl; show (if _ then _ else _ : Int32).toInt = _; rw [if_pos ⟨rfl, h⟩]; exact iv_toInt hv
theorem gi_fl_o {I : Mi} {a : Nat} {d v n : Int} {j : Nat} (h : ¬ (d ≤ (j : Int) ∧ (j : Int) < d + n)) : gi (fl I a d v n) a j = gi I a j := by
  unfold gi fl; rw [if_neg (fun q => h q.2)]
theorem gi_cp_e {I : Mi} {a : Nat} {d : Int} {b : Nat} {s n : Int} {j : Nat} (h : d ≤ (j : Int) ∧ (j : Int) < d + n) : gi (cp I a d b s n) a j = gi I b ((j : Int) - d + s).toNat := by
  unfold gi cp; rw [if_pos ⟨rfl, h⟩]
theorem gi_cp_o {I : Mi} {a : Nat} {d : Int} {b : Nat} {s n : Int} {j : Nat} (h : ¬ (d ≤ (j : Int) ∧ (j : Int) < d + n)) : gi (cp I a d b s n) a j = gi I a j := by
  unfold gi cp; rw [if_neg (fun q => h q.2)]
noncomputable def fX10_law_b43 (r1 : Int) (I2 : Mi) (J3 : Mj) (r10 : Int) (I11 : Mi) (J12 : Mj) (S : Mi × Mj) (v : Int) (S7 : Mi × Mj) : (Int ⊕ Int) × Mi × Mj :=
  match S with
  | (I, J) =>
  match v with
  | n0 =>
  match S7 with
  | (I18, J18) =>
    if (gi I18 57 7) = 0 then
      (.inr (n0), (wi (wi (wi (fl (cp I18 59 0 60 0 108) 59 108 0 12) 59 110 (-1)) 59 111 (-1)) 57 23 0), (cpj J18 63 0 64 0 12))
    else
      match fX10_readLine (I18, J18) with
      | (r38, I39, J40) =>
        if r38 = true then
          (.inl (n0 + 1), I39, J40)
        else
          (.inr ((-1) - (gi I39 57 11)), I39, J40)
theorem frX10_law_b43 {r1 : Int} {I2 : Mi} {J3 : Mj} {r10 : Int} {I11 : Mi} {J12 : Mj} {S : Mi × Mj} {v : Int} {S7 : Mi × Mj} {r0 : (Int ⊕ Int)} {I0 : Mi} {J0 : Mj} (h : fX10_law_b43 r1 I2 J3 r10 I11 J12 S v S7 = (r0, I0, J0)) (aq kq : Nat) (haq : aq ≠ 59 ∧ aq ≠ 60 ∧ ¬ (aq = 57 ∧ kq = 0) ∧ ¬ (aq = 57 ∧ kq = 10) ∧ ¬ (aq = 57 ∧ kq = 11) ∧ ¬ (aq = 57 ∧ kq = 13) ∧ ¬ (aq = 57 ∧ kq = 2) ∧ ¬ (aq = 57 ∧ kq = 22) ∧ ¬ (aq = 57 ∧ kq = 23) ∧ ¬ (aq = 57 ∧ kq = 24) ∧ ¬ (aq = 57 ∧ kq = 3) ∧ ¬ (aq = 57 ∧ kq = 4) ∧ ¬ (aq = 57 ∧ kq = 5) ∧ ¬ (aq = 57 ∧ kq = 6) ∧ ¬ (aq = 57 ∧ kq = 7) ∧ ¬ (aq = 57 ∧ kq = 8) ∧ ¬ (aq = 57 ∧ kq = 9)) : I0 aq kq = S7.1 aq kq := by
  obtain ⟨I, J⟩ := S
  obtain ⟨I18, J18⟩ := S7
  obtain ⟨n0, hv0⟩ : ∃ q, q = v := ⟨v, rfl⟩; subst hv0
  unfold fX10_law_b43 at h
  try simp only at h
  by_cases hq1 : (gi I18 57 7) = 0
  · simp only [if_pos hq1] at h
    simp only [Prod.mk.injEq] at h
    obtain ⟨-, hI, hJ⟩ := h
    exact (congrFun (congrFun hI aq) kq).symm.trans (Eq.trans (wi_nc _ _ haq.2.2.2.2.2.2.2.2.1) (Eq.trans (wi_nc _ _ (fun q => haq.1 q.1)) (Eq.trans (wi_nc _ _ (fun q => haq.1 q.1)) (Eq.trans (fl_fr (cp I18 59 0 60 0 108) 59 108 0 12 aq kq haq.1) (Eq.trans (cp_fr I18 59 0 60 0 108 aq kq haq.1) rfl)))))
  · simp only [if_neg hq1] at h
    obtain ⟨⟨r38, I39, J40⟩, hq2⟩ : ∃ q, q = fX10_readLine (I18, J18) := ⟨_, rfl⟩
    rw [← hq2] at h; try simp only at h
    by_cases hq3 : r38 = true
    · simp only [if_pos hq3] at h
      simp only [Prod.mk.injEq] at h
      obtain ⟨-, hI, hJ⟩ := h
      exact (congrFun (congrFun hI aq) kq).symm.trans (Eq.trans (frX10_readLine hq2.symm aq kq ⟨haq.2.1, haq.2.2.2.1, haq.2.2.2.2.1, haq.2.2.2.2.2.1, haq.2.2.2.2.2.2.2.2.2.1, haq.2.2.2.2.2.2.2.2.2.2.2.2.1, haq.2.2.2.2.2.2.2.2.2.2.2.2.2.1, haq.2.2.2.2.2.2.2.2.2.2.2.2.2.2.1, haq.2.2.2.2.2.2.2.2.2.2.2.2.2.2.2.1, haq.2.2.2.2.2.2.2.2.2.2.2.2.2.2.2.2⟩) rfl)
    · simp only [if_neg hq3] at h
      simp only [Prod.mk.injEq] at h
      obtain ⟨-, hI, hJ⟩ := h
      exact (congrFun (congrFun hI aq) kq).symm.trans (Eq.trans (frX10_readLine hq2.symm aq kq ⟨haq.2.1, haq.2.2.2.1, haq.2.2.2.2.1, haq.2.2.2.2.2.1, haq.2.2.2.2.2.2.2.2.2.1, haq.2.2.2.2.2.2.2.2.2.2.2.2.1, haq.2.2.2.2.2.2.2.2.2.2.2.2.2.1, haq.2.2.2.2.2.2.2.2.2.2.2.2.2.2.1, haq.2.2.2.2.2.2.2.2.2.2.2.2.2.2.2.1, haq.2.2.2.2.2.2.2.2.2.2.2.2.2.2.2.2⟩) rfl)
theorem fjX10_law_b43 {r1 : Int} {I2 : Mi} {J3 : Mj} {r10 : Int} {I11 : Mi} {J12 : Mj} {S : Mi × Mj} {v : Int} {S7 : Mi × Mj} {r0 : (Int ⊕ Int)} {I0 : Mi} {J0 : Mj} (h : fX10_law_b43 r1 I2 J3 r10 I11 J12 S v S7 = (r0, I0, J0)) (aq kq : Nat) (haq : aq ≠ 63 ∧ aq ≠ 64 ∧ ¬ (aq = 57 ∧ kq = 12)) : J0 aq kq = S7.2 aq kq := by
  obtain ⟨I, J⟩ := S
  obtain ⟨I18, J18⟩ := S7
  obtain ⟨n0, hv0⟩ : ∃ q, q = v := ⟨v, rfl⟩; subst hv0
  unfold fX10_law_b43 at h
  try simp only at h
  by_cases hq1 : (gi I18 57 7) = 0
  · simp only [if_pos hq1] at h
    simp only [Prod.mk.injEq] at h
    obtain ⟨-, hI, hJ⟩ := h
    exact (congrFun (congrFun hJ aq) kq).symm.trans (Eq.trans (cpj_fr J18 63 0 64 0 12 aq kq haq.1) rfl)
  · simp only [if_neg hq1] at h
    obtain ⟨⟨r38, I39, J40⟩, hq2⟩ : ∃ q, q = fX10_readLine (I18, J18) := ⟨_, rfl⟩
    rw [← hq2] at h; try simp only at h
    by_cases hq3 : r38 = true
    · simp only [if_pos hq3] at h
      simp only [Prod.mk.injEq] at h
      obtain ⟨-, hI, hJ⟩ := h
      exact (congrFun (congrFun hJ aq) kq).symm.trans (Eq.trans (fjX10_readLine hq2.symm aq kq ⟨haq.2.1, haq.2.2⟩) rfl)
    · simp only [if_neg hq3] at h
      simp only [Prod.mk.injEq] at h
      obtain ⟨-, hI, hJ⟩ := h
      exact (congrFun (congrFun hJ aq) kq).symm.trans (Eq.trans (fjX10_readLine hq2.symm aq kq ⟨haq.2.1, haq.2.2⟩) rfl)
noncomputable def fX10_law (S : Mi × Mj) : Int × Mi × Mj :=
  match S with
  | (I, J) =>
    match fX10_begin 700 (I, J) with
    | (r1, I2, J3) =>
      match fX10_plain60 ((fl I2 60 0 0 108), J3) with
      | (r10, I11, J12) =>
        lpr (fX10_law_b43 r1 I2 J3 r10 I11 J12 (I, J)) 0 ((gi (wi I11 57 24 0) 57 3 - gi (wi I11 57 24 0) 57 5).toNat + 1) 0 ((wi I11 57 24 0), J12)
theorem frX10_law {S : Mi × Mj} {r0 : Int} {I0 : Mi} {J0 : Mj} (h : fX10_law  S = (r0, I0, J0)) (aq kq : Nat) (haq : aq ≠ 59 ∧ aq ≠ 60 ∧ ¬ (aq = 57 ∧ kq = 0) ∧ ¬ (aq = 57 ∧ kq = 10) ∧ ¬ (aq = 57 ∧ kq = 11) ∧ ¬ (aq = 57 ∧ kq = 13) ∧ ¬ (aq = 57 ∧ kq = 2) ∧ ¬ (aq = 57 ∧ kq = 22) ∧ ¬ (aq = 57 ∧ kq = 23) ∧ ¬ (aq = 57 ∧ kq = 24) ∧ ¬ (aq = 57 ∧ kq = 3) ∧ ¬ (aq = 57 ∧ kq = 4) ∧ ¬ (aq = 57 ∧ kq = 5) ∧ ¬ (aq = 57 ∧ kq = 6) ∧ ¬ (aq = 57 ∧ kq = 7) ∧ ¬ (aq = 57 ∧ kq = 8) ∧ ¬ (aq = 57 ∧ kq = 9)) : I0 aq kq = S.1 aq kq := by
  obtain ⟨I, J⟩ := S
  unfold fX10_law at h
  try simp only at h
  obtain ⟨⟨r1, I2, J3⟩, hq1⟩ : ∃ q, q = fX10_begin 700 (I, J) := ⟨_, rfl⟩
  rw [← hq1] at h; try simp only at h
  obtain ⟨⟨r10, I11, J12⟩, hq2⟩ : ∃ q, q = fX10_plain60 ((fl I2 60 0 0 108), J3) := ⟨_, rfl⟩
  rw [← hq2] at h; try simp only at h
  exact (lpr_fr (fun v S r I5 J5 hq => frX10_law_b43 hq aq kq haq) h).trans (Eq.trans (wi_nc _ _ haq.2.2.2.2.2.2.2.2.2.1) (Eq.trans (frX10_plain60 hq2.symm aq kq ⟨(fun q => haq.2.1 q.1), (fun q => haq.2.1 q.1), (fun q => haq.2.1 q.1)⟩) (Eq.trans (fl_fr I2 60 0 0 108 aq kq haq.2.1) (Eq.trans (frX10_begin hq1.symm aq kq ⟨haq.2.2.1, haq.2.2.2.1, haq.2.2.2.2.2.2.1, haq.2.2.2.2.2.2.2.1, haq.2.2.2.2.2.2.2.2.2.2.1, haq.2.2.2.2.2.2.2.2.2.2.2.1, haq.2.2.2.2.2.2.2.2.2.2.2.2.1, haq.2.2.2.2.2.2.2.2.2.2.2.2.2.1, haq.2.2.2.2.2.2.2.2.2.2.2.2.2.2.1, haq.2.2.2.2.2.2.2.2.2.2.2.2.2.2.2.1, haq.2.2.2.2.2.2.2.2.2.2.2.2.2.2.2.2, (fun q => haq.1 q.1), (fun q => haq.1 q.1), (fun q => haq.1 q.1), (fun q => haq.1 q.1), (fun q => haq.1 q.1)⟩) rfl))))
theorem fjX10_law {S : Mi × Mj} {r0 : Int} {I0 : Mi} {J0 : Mj} (h : fX10_law  S = (r0, I0, J0)) (aq kq : Nat) (haq : aq ≠ 63 ∧ aq ≠ 64 ∧ ¬ (aq = 57 ∧ kq = 12)) : J0 aq kq = S.2 aq kq := by
  obtain ⟨I, J⟩ := S
  unfold fX10_law at h
  try simp only at h
  obtain ⟨⟨r1, I2, J3⟩, hq1⟩ : ∃ q, q = fX10_begin 700 (I, J) := ⟨_, rfl⟩
  rw [← hq1] at h; try simp only at h
  obtain ⟨⟨r10, I11, J12⟩, hq2⟩ : ∃ q, q = fX10_plain60 ((fl I2 60 0 0 108), J3) := ⟨_, rfl⟩
  rw [← hq2] at h; try simp only at h
  exact (lpr_fj (fun v S r I5 J5 hq => fjX10_law_b43 hq aq kq haq) h).trans (Eq.trans (fjX10_plain60 hq2.symm aq kq trivial) (Eq.trans (fjX10_begin hq1.symm aq kq haq.2.2) rfl))
set_option maxHeartbeats 4000000 in
set_option maxRecDepth 100000 in
theorem qX10_law {G : Gx} {σ : State} (hC : Cz G σ) {sh : Sh} {I : Mi} {J : Mj}  (hS : St sh) (hl : LX I) (ht : 0 ≤ gi I 57 2 ∧ gi I 57 2 ≤ 740) : Ce G σ 7 yX10_law cX10_law 3 (some .int) [.ref (G.2.2 + 57)] (sh, I, J) 0 0 (some (.int (iv ((fX10_law (I, J)).1)))) (sh, (fX10_law (I, J)).2.1, (fX10_law (I, J)).2.2) := by
  refine Ct.of hC (by decide +kernel) (Nat.le_of_ble_eq_true rfl) ?_
  intro p l e R s m args below meth c C
  show Jz G σ p l e R s m args below meth c 3 0 0 (Qx (some (.int (iv ((fX10_law (I, J)).1)))) (sh, (fX10_law (I, J)).2.1, (fX10_law (I, J)).2.2)) (sh, I, J) 0 0 0 [(0, .ref (G.2.2 + 57))] []
  refine z_aload_n C dX10_law_0 0 rfl ?_
  refine z_sipush C dX10_law_1 (by decide) ?_
  refine z_cVvF (st := []) (F := fX10_begin 700 (I, J)) C dX10_law_4 mX10_234 (kd_57 hS) (qX10_begin hC 700 hS hl (by omega) ht) rfl rfl (Nat.le_of_ble_eq_true rfl) (by decide) (fun r1 I2 J3 hT4 => ?_)
  have hl5 : LX I2 := okX10_begin hT4 hl ht; have hbhl5 := hl5; unfold LX at hbhl5
  refine z_iconst C dX10_law_7 ?_
  refine z_istore_n (lv' := [(0, .ref (G.2.2 + 57)), (1, .int (iv (0)))]) C dX10_law_8 rfl (by decide) [1, 0] rfl ?_
  have hE9 : Jz G σ p l e R s m args below meth c 3 0 0 (Qx (some (.int (iv ((fX10_law (I, J)).1)))) (sh, (fX10_law (I, J)).2.1, (fX10_law (I, J)).2.2)) (sh, (fl I2 60 0 0 108), J3) 0 0 28 [(0, .ref (G.2.2 + 57))] [] := by
    have hz0 : gi (fl I2 60 0 0 108) 60 0 = 0 := gi_fl_e (by decide) (by decide)
    have hz1 : gi (fl I2 60 0 0 108) 60 1 = 0 := gi_fl_e (by decide) (by decide)
    refine z_aload_n C dX10_law_28 0 rfl ?_
    refine z_aload_n C dX10_law_29 0 rfl ?_
    refine z_getR C dX10_law_30 fX10_16 rfl (kd_57 hS) (r_57_15 hS) ?_
    refine z_cVvF (st := []) (F := fX10_plain60 ((fl I2 60 0 0 108), J3)) C dX10_law_33 mX10_178 (kd_57 hS) (qX10_plain60 hC  hS) rfl rfl (Nat.le_of_ble_eq_true rfl) (by decide) (fun r10 I11 J12 hT13 => ?_)
    refine z_aload_n C dX10_law_36 0 rfl ?_
    refine z_iconst C dX10_law_37 ?_
    refine z_putI C dX10_law_38 fX10_212 rfl rfl (kd_57 hS) rfl rfl ?_
    refine z_iconst C dX10_law_41 ?_
    refine z_istore_n (lv' := [(0, .ref (G.2.2 + 57)), (1, .int (iv (0)))]) C dX10_law_42 rfl (by decide) [1, 0] rfl ?_
    have hL15 : ∀ (N14 : Nat) (n0 : Int) (I18 : Mi) (J18 : Mj), (∀ aq kq : Nat, aq ≠ 59 ∧ aq ≠ 60 ∧ ¬ (aq = 57 ∧ kq = 0) ∧ ¬ (aq = 57 ∧ kq = 10) ∧ ¬ (aq = 57 ∧ kq = 11) ∧ ¬ (aq = 57 ∧ kq = 13) ∧ ¬ (aq = 57 ∧ kq = 2) ∧ ¬ (aq = 57 ∧ kq = 22) ∧ ¬ (aq = 57 ∧ kq = 23) ∧ ¬ (aq = 57 ∧ kq = 24) ∧ ¬ (aq = 57 ∧ kq = 3) ∧ ¬ (aq = 57 ∧ kq = 4) ∧ ¬ (aq = 57 ∧ kq = 5) ∧ ¬ (aq = 57 ∧ kq = 6) ∧ ¬ (aq = 57 ∧ kq = 7) ∧ ¬ (aq = 57 ∧ kq = 8) ∧ ¬ (aq = 57 ∧ kq = 9) → I18 aq kq = (wi I11 57 24 0) aq kq) → (∀ aq kq : Nat, aq ≠ 63 ∧ aq ≠ 64 ∧ ¬ (aq = 57 ∧ kq = 12) → J18 aq kq = J12 aq kq) → (LX I18) → fX10_law (I, J) = lpr (fX10_law_b43 r1 I2 J3 r10 I11 J12 (I, J)) 0 N14 n0 (I18, J18) → (gi I18 57 3 - gi I18 57 5).toNat < N14 → Jz G σ p l e R s m args below meth c 3 0 0 (Qx (some (.int (iv ((fX10_law (I, J)).1)))) (sh, (fX10_law (I, J)).2.1, (fX10_law (I, J)).2.2)) (sh, I18, J18) 0 0 43 [(0, .ref (G.2.2 + 57)), (1, .int (iv (n0)))] [] := by
      intro N14
      induction N14 with
      | zero => intro n0 I18 J18 hfr19 hfj20 hl7 hi17 hm; exact absurd hm (Nat.not_lt_zero _)
      | succ N14 ih16 =>
        intro n0 I18 J18 hfr19 hfj20 hl7 hi17 hm
        have hb7 := hl7
        unfold LX at hb7
        refine z_aload_n C dX10_law_43 0 rfl ?_
        refine z_getI C dX10_law_44 fX10_105 rfl (kd_57 hS) ?_
        refine z_if_eq 70 C dX10_law_47 (by decide) (gi_rng _ _ _) (fun h21 => ?_) (fun h21 => ?_)
        ·
          refine z_iconst C dX10_law_70 ?_
          refine z_istore_n (lv' := [(0, .ref (G.2.2 + 57)), (1, .int (iv (n0))), (2, .int (iv (0)))]) C dX10_law_71 rfl (by decide) [1, 2, 0] rfl ?_
          have hE25 : Jz G σ p l e R s m args below meth c 3 0 0 (Qx (some (.int (iv ((fX10_law (I, J)).1)))) (sh, (fX10_law (I, J)).2.1, (fX10_law (I, J)).2.2)) (sh, (cp I18 59 0 60 0 108), J18) 0 0 96 [(0, .ref (G.2.2 + 57)), (1, .int (iv (n0)))] [] := by
            refine z_bipush C dX10_law_96 (by decide) ?_
            refine z_istore_n (lv' := [(0, .ref (G.2.2 + 57)), (1, .int (iv (n0))), (2, .int (iv (108)))]) C dX10_law_98 rfl (by decide) [1, 2, 0] rfl ?_
            have hE29 : Jz G σ p l e R s m args below meth c 3 0 0 (Qx (some (.int (iv ((fX10_law (I, J)).1)))) (sh, (fX10_law (I, J)).2.1, (fX10_law (I, J)).2.2)) (sh, (fl (cp I18 59 0 60 0 108) 59 108 0 12), J18) 0 0 118 [(0, .ref (G.2.2 + 57)), (1, .int (iv (n0)))] [] := by
              refine z_aload_n C dX10_law_118 0 rfl ?_
              refine z_getR C dX10_law_119 fX10_13 rfl (kd_57 hS) (r_57_14 hS) ?_
              refine z_bipush C dX10_law_122 (by decide) ?_
              refine z_iconst C dX10_law_124 ?_
              refine z_iast (q := 110) C dX10_law_125 (ka_59 hS) rfl (by decide) ?_
              refine z_aload_n C dX10_law_126 0 rfl ?_
              refine z_getR C dX10_law_127 fX10_13 rfl (kd_57 hS) (r_57_14 hS) ?_
              refine z_bipush C dX10_law_130 (by decide) ?_
              refine z_iconst C dX10_law_132 ?_
              refine z_iast (q := 111) C dX10_law_133 (ka_59 hS) rfl (by decide) ?_
              refine z_iconst C dX10_law_134 ?_
              refine z_istore_n (lv' := [(0, .ref (G.2.2 + 57)), (1, .int (iv (n0))), (2, .int (iv (0)))]) C dX10_law_135 rfl (by decide) [1, 2, 0] rfl ?_
              have hE33 : Jz G σ p l e R s m args below meth c 3 0 0 (Qx (some (.int (iv ((fX10_law (I, J)).1)))) (sh, (fX10_law (I, J)).2.1, (fX10_law (I, J)).2.2)) (sh, (wi (wi (fl (cp I18 59 0 60 0 108) 59 108 0 12) 59 110 (-1)) 59 111 (-1)), (cpj J18 63 0 64 0 12)) 0 0 160 [(0, .ref (G.2.2 + 57)), (1, .int (iv (n0)))] [] := by
                refine z_aload_n C dX10_law_160 0 rfl ?_
                refine z_iconst C dX10_law_161 ?_
                refine z_putI C dX10_law_162 fX10_240 rfl rfl (kd_57 hS) rfl rfl ?_
                refine z_iload_n C dX10_law_165 1 rfl ?_
                have hf34 : fX10_law (I, J) = (n0, (wi (wi (wi (fl (cp I18 59 0 60 0 108) 59 108 0 12) 59 110 (-1)) 59 111 (-1)) 57 23 0), (cpj J18 63 0 64 0 12)) := (hi17.trans (lpr_r (by simp only [fX10_law_b43, if_pos h21])))
                exact z_ireturnx C dX10_law_166 (by rw [hf34]) (by rw [hf34])
              have hL31 : ∀ (N30 : Nat) (k : Int), (0 ≤ k ∧ k ≤ 12) → (12 - k).toNat < N30 → Jz G σ p l e R s m args below meth c 3 0 0 (Qx (some (.int (iv ((fX10_law (I, J)).1)))) (sh, (fX10_law (I, J)).2.1, (fX10_law (I, J)).2.2)) (sh, (wi (wi (fl (cp I18 59 0 60 0 108) 59 108 0 12) 59 110 (-1)) 59 111 (-1)), (cpj J18 63 0 64 0 k)) 0 0 136 [(0, .ref (G.2.2 + 57)), (1, .int (iv (n0))), (2, .int (iv (k)))] [] := by
                intro N30
                induction N30 with
                | zero => intro k hk hm; exact absurd hm (Nat.not_lt_zero _)
                | succ N30 ih32 =>
                  intro k hk hm
                  refine z_iload_n C dX10_law_136 2 rfl ?_
                  refine z_bipush C dX10_law_137 (by decide) ?_
                  refine z_icmp_ge 160 C dX10_law_139 (by decide) (by omega) (by decide) (fun h35 => ?_) (fun h35 => ?_)
                  ·
                    have hcl : k = 12 := by omega
                    refine z_eqM (sh, (wi (wi (fl (cp I18 59 0 60 0 108) 59 108 0 12) 59 110 (-1)) 59 111 (-1)), (cpj J18 63 0 64 0 12)) (memEq rfl (by rw [show k = 12 by omega])) ?_
                    refine z_drop (lv' := [(0, .ref (G.2.2 + 57)), (1, .int (iv (n0)))]) [0, 1] rfl ?_
                    exact hE33
                  ·
                    refine z_aload_n C dX10_law_142 0 rfl ?_
                    refine z_getR C dX10_law_143 fX10_26 rfl (kd_57 hS) (r_57_18 hS) ?_
                    refine z_iload_n C dX10_law_146 2 rfl ?_
                    refine z_aload_n C dX10_law_147 0 rfl ?_
                    refine z_getR C dX10_law_148 fX10_30 rfl (kd_57 hS) (r_57_19 hS) ?_
                    refine z_iload_n C dX10_law_151 2 rfl ?_
                    refine z_lald (q := (k).toNat) C dX10_law_152 (ka_64 hS) (by omega) (by omega) ?_
                    refine z_eql (gj J18 64 ((k).toNat)) (gj_fk (cpj_fr J18 63 0 64 0 k 64 ((k).toNat) (by simp))) ?_
                    refine z_last (q := (k).toNat) C dX10_law_153 (ka_63 hS) (by omega) (by omega) ?_
                    refine z_iinc (lv' := [(0, .ref (G.2.2 + 57)), (1, .int (iv (n0))), (2, .int (iv (k + 1)))]) C dX10_law_154 2 rfl (by decide) [1, 2, 0] rfl ?_
                    refine z_goto 136 C dX10_law_157 (by decide) ?_
                    refine z_eqM (sh, (wi (wi (fl (cp I18 59 0 60 0 108) 59 108 0 12) 59 110 (-1)) 59 111 (-1)), (cpj J18 63 0 64 0 (k + 1))) (memEq rfl (cpj_s (by omega) (by omega) (by decide) (by omega))) ?_
                    exact ih32 (k + 1) (by omega) (by omega)
              refine z_eqM (sh, (wi (wi (fl (cp I18 59 0 60 0 108) 59 108 0 12) 59 110 (-1)) 59 111 (-1)), (cpj J18 63 0 64 0 0)) (memEq rfl (cpj_i _ _ _ _ _ (by omega)).symm) ?_
              exact hL31 _ (0) (by omega) (Nat.lt_succ_self _)
            have hL27 : ∀ (N26 : Nat) (k : Int), (108 ≤ k ∧ k ≤ 120) → (120 - k).toNat < N26 → Jz G σ p l e R s m args below meth c 3 0 0 (Qx (some (.int (iv ((fX10_law (I, J)).1)))) (sh, (fX10_law (I, J)).2.1, (fX10_law (I, J)).2.2)) (sh, (fl (cp I18 59 0 60 0 108) 59 108 0 (k - 108)), J18) 0 0 99 [(0, .ref (G.2.2 + 57)), (1, .int (iv (n0))), (2, .int (iv (k)))] [] := by
              intro N26
              induction N26 with
              | zero => intro k hk hm; exact absurd hm (Nat.not_lt_zero _)
              | succ N26 ih28 =>
                intro k hk hm
                refine z_iload_n C dX10_law_99 2 rfl ?_
                refine z_bipush C dX10_law_100 (by decide) ?_
                refine z_icmp_ge 118 C dX10_law_102 (by decide) (by omega) (by decide) (fun h36 => ?_) (fun h36 => ?_)
                ·
                  have hcl : k = 120 := by omega
                  refine z_eqM (sh, (fl (cp I18 59 0 60 0 108) 59 108 0 12), J18) (memEq (by rw [show k - 108 = 12 by omega]) rfl) ?_
                  refine z_drop (lv' := [(0, .ref (G.2.2 + 57)), (1, .int (iv (n0)))]) [0, 1] rfl ?_
                  exact hE29
                ·
                  refine z_aload_n C dX10_law_105 0 rfl ?_
                  refine z_getR C dX10_law_106 fX10_13 rfl (kd_57 hS) (r_57_14 hS) ?_
                  refine z_iload_n C dX10_law_109 2 rfl ?_
                  refine z_iconst C dX10_law_110 ?_
                  refine z_iast (q := (k).toNat) C dX10_law_111 (ka_59 hS) (by omega) (by omega) ?_
                  refine z_iinc (lv' := [(0, .ref (G.2.2 + 57)), (1, .int (iv (n0))), (2, .int (iv (k + 1)))]) C dX10_law_112 2 rfl (by decide) [1, 2, 0] rfl ?_
                  refine z_goto 99 C dX10_law_115 (by decide) ?_
                  refine z_eqM (sh, (fl (cp I18 59 0 60 0 108) 59 108 0 ((k + 1) - 108)), J18) (memEq ((fl_s (by omega) (by decide) (by omega)).trans (by rw [show k - 108 + 1 = k + 1 - 108 by omega])) rfl) ?_
                  exact ih28 (k + 1) (by omega) (by omega)
            refine z_eqM (sh, (fl (cp I18 59 0 60 0 108) 59 108 0 (108 - 108)), J18) (memEq (fl_i _ _ _ _ 0 (by omega)).symm rfl) ?_
            exact hL27 _ (108) (by omega) (Nat.lt_succ_self _)
          have hL23 : ∀ (N22 : Nat) (k : Int), (0 ≤ k ∧ k ≤ 108) → (108 - k).toNat < N22 → Jz G σ p l e R s m args below meth c 3 0 0 (Qx (some (.int (iv ((fX10_law (I, J)).1)))) (sh, (fX10_law (I, J)).2.1, (fX10_law (I, J)).2.2)) (sh, (cp I18 59 0 60 0 k), J18) 0 0 72 [(0, .ref (G.2.2 + 57)), (1, .int (iv (n0))), (2, .int (iv (k)))] [] := by
            intro N22
            induction N22 with
            | zero => intro k hk hm; exact absurd hm (Nat.not_lt_zero _)
            | succ N22 ih24 =>
              intro k hk hm
              refine z_iload_n C dX10_law_72 2 rfl ?_
              refine z_bipush C dX10_law_73 (by decide) ?_
              refine z_icmp_ge 96 C dX10_law_75 (by decide) (by omega) (by decide) (fun h37 => ?_) (fun h37 => ?_)
              ·
                have hcl : k = 108 := by omega
                refine z_eqM (sh, (cp I18 59 0 60 0 108), J18) (memEq (by rw [show k = 108 by omega]) rfl) ?_
                refine z_drop (lv' := [(0, .ref (G.2.2 + 57)), (1, .int (iv (n0)))]) [0, 1] rfl ?_
                exact hE25
              ·
                refine z_aload_n C dX10_law_78 0 rfl ?_
                refine z_getR C dX10_law_79 fX10_13 rfl (kd_57 hS) (r_57_14 hS) ?_
                refine z_iload_n C dX10_law_82 2 rfl ?_
                refine z_aload_n C dX10_law_83 0 rfl ?_
                refine z_getR C dX10_law_84 fX10_16 rfl (kd_57 hS) (r_57_15 hS) ?_
                refine z_iload_n C dX10_law_87 2 rfl ?_
                refine z_iald (q := (k).toNat) C dX10_law_88 (ka_60 hS) (by omega) (by omega) ?_
                refine z_eqi (gi I18 60 ((k).toNat)) (gi_fk (cp_fr I18 59 0 60 0 k 60 ((k).toNat) (by simp))) ?_
                refine z_iast (q := (k).toNat) C dX10_law_89 (ka_59 hS) (by omega) (by omega) ?_
                refine z_iinc (lv' := [(0, .ref (G.2.2 + 57)), (1, .int (iv (n0))), (2, .int (iv (k + 1)))]) C dX10_law_90 2 rfl (by decide) [1, 2, 0] rfl ?_
                refine z_goto 72 C dX10_law_93 (by decide) ?_
                refine z_eqM (sh, (cp I18 59 0 60 0 (k + 1)), J18) (memEq (cp_s (by omega) (by omega) (by decide) (by omega)) rfl) ?_
                exact ih24 (k + 1) (by omega) (by omega)
          refine z_eqM (sh, (cp I18 59 0 60 0 0), J18) (memEq (cp_i _ _ _ _ _ (by omega)).symm rfl) ?_
          exact hL23 _ (0) (by omega) (Nat.lt_succ_self _)
        ·
          refine z_aload_n C dX10_law_50 0 rfl ?_
          refine z_cVibF (st := []) (F := fX10_readLine (I18, J18)) C dX10_law_51 mX10_237 (kd_57 hS) (qX10_readLine hC  hS hl7) rfl rfl (Nat.le_of_ble_eq_true rfl) (by decide) (fun r38 I39 J40 hT41 => ?_)
          have hl42 : LX I39 := okX10_readLine hT41 hl7; have hbhl42 := hl42; unfold LX at hbhl42
          refine z_if_ne_b 64 C dX10_law_54 (by decide) (fun h43 => ?_) (fun h43 => ?_)
          ·
            have hlt := readLine_lt hT41 h43 hl7
            have hsz : gi I39 57 3 = gi I18 57 3 := gi_fk (frX10_readLine hT41 57 3 (by decide))
            refine z_iinc (lv' := [(0, .ref (G.2.2 + 57)), (1, .int (iv (n0 + 1)))]) C dX10_law_64 1 rfl (by decide) [1, 0] rfl ?_
            refine z_goto 43 C dX10_law_67 (by decide) ?_
            exact ih16 (n0 + 1) I39 J40 (fun aq kq haq => Eq.trans (frX10_readLine hT41 aq kq ⟨haq.2.1, haq.2.2.2.1, haq.2.2.2.2.1, haq.2.2.2.2.2.1, haq.2.2.2.2.2.2.2.2.2.1, haq.2.2.2.2.2.2.2.2.2.2.2.2.1, haq.2.2.2.2.2.2.2.2.2.2.2.2.2.1, haq.2.2.2.2.2.2.2.2.2.2.2.2.2.2.1, haq.2.2.2.2.2.2.2.2.2.2.2.2.2.2.2.1, haq.2.2.2.2.2.2.2.2.2.2.2.2.2.2.2.2⟩) (hfr19 aq kq haq)) (fun aq kq haq => Eq.trans (fjX10_readLine hT41 aq kq ⟨haq.2.1, haq.2.2⟩) (hfj20 aq kq haq)) hl42 (hi17.trans (lpr_l (by simp only [fX10_law_b43, if_neg h21, hT41, if_pos h43]))) (by omega)
          ·
            refine z_iconst C dX10_law_57 ?_
            refine z_aload_n C dX10_law_58 0 rfl ?_
            refine z_getI C dX10_law_59 fX10_148 rfl (kd_57 hS) ?_
            refine z_isub C dX10_law_62 ?_
            have hf44 : fX10_law (I, J) = ((-1) - (gi I39 57 11), I39, J40) := (hi17.trans (lpr_r (by simp only [fX10_law_b43, if_neg h21, hT41, if_neg h43])))
            exact z_ireturnx C dX10_law_63 (by rw [hf44]) (by rw [hf44])
    exact hL15 _ 0 (wi I11 57 24 0) J12 (fun _ _ _ => rfl) (fun _ _ _ => rfl) (by have hb := hl5; unfold LX at hb ⊢; have : gi (wi I11 57 24 0) 57 3 = gi I2 57 3 := (Eq.trans (gi_wi_nk _ _ _ (by decide)) (Eq.trans (gi_fk (frX10_plain60 hT13 57 3 (by decide))) (gi_fk (fl_fr I2 60 0 0 108 57 3 (by decide))))); have : gi (wi I11 57 24 0) 57 5 = gi I2 57 5 := (Eq.trans (gi_wi_nk _ _ _ (by decide)) (Eq.trans (gi_fk (frX10_plain60 hT13 57 5 (by decide))) (gi_fk (fl_fr I2 60 0 0 108 57 5 (by decide))))); have : gi (wi I11 57 24 0) 60 0 = gi (fl I2 60 0 0 108) 60 0 := (Eq.trans (gi_wi_na _ _ _ _ (by decide)) (gi_fk (frX10_plain60 hT13 60 0 (by decide)))); have : gi (wi I11 57 24 0) 60 1 = gi (fl I2 60 0 0 108) 60 1 := (Eq.trans (gi_wi_na _ _ _ _ (by decide)) (gi_fk (frX10_plain60 hT13 60 1 (by decide)))); have : gi (wi I11 57 24 0) 59 0 = gi I2 59 0 := (Eq.trans (gi_wi_na _ _ _ _ (by decide)) (Eq.trans (gi_fk (frX10_plain60 hT13 59 0 (by decide))) (gi_fk (fl_fr I2 60 0 0 108 59 0 (by decide))))); have : gi (wi I11 57 24 0) 57 24 = 0 := (gi_wi_eq (x := 0) _ _ _ (by decide)); omega) (by simp only [fX10_law, hT4, hT13]) (Nat.lt_succ_self _)
  have hL7 : ∀ (N6 : Nat) (k : Int), (0 ≤ k ∧ k ≤ 108) → (108 - k).toNat < N6 → Jz G σ p l e R s m args below meth c 3 0 0 (Qx (some (.int (iv ((fX10_law (I, J)).1)))) (sh, (fX10_law (I, J)).2.1, (fX10_law (I, J)).2.2)) (sh, (fl I2 60 0 0 k), J3) 0 0 9 [(0, .ref (G.2.2 + 57)), (1, .int (iv (k)))] [] := by
    intro N6
    induction N6 with
    | zero => intro k hk hm; exact absurd hm (Nat.not_lt_zero _)
    | succ N6 ih8 =>
      intro k hk hm
      refine z_iload_n C dX10_law_9 1 rfl ?_
      refine z_bipush C dX10_law_10 (by decide) ?_
      refine z_icmp_ge 28 C dX10_law_12 (by decide) (by omega) (by decide) (fun h45 => ?_) (fun h45 => ?_)
      ·
        have hcl : k = 108 := by omega
        refine z_eqM (sh, (fl I2 60 0 0 108), J3) (memEq (by rw [show k = 108 by omega]) rfl) ?_
        refine z_drop (lv' := [(0, .ref (G.2.2 + 57))]) [0] rfl ?_
        exact hE9
      ·
        refine z_aload_n C dX10_law_15 0 rfl ?_
        refine z_getR C dX10_law_16 fX10_16 rfl (kd_57 hS) (r_57_15 hS) ?_
        refine z_iload_n C dX10_law_19 1 rfl ?_
        refine z_iconst C dX10_law_20 ?_
        refine z_iast (q := (k).toNat) C dX10_law_21 (ka_60 hS) (by omega) (by omega) ?_
        refine z_iinc (lv' := [(0, .ref (G.2.2 + 57)), (1, .int (iv (k + 1)))]) C dX10_law_22 1 rfl (by decide) [1, 0] rfl ?_
        refine z_goto 9 C dX10_law_25 (by decide) ?_
        refine z_eqM (sh, (fl I2 60 0 0 (k + 1)), J3) (memEq (fl_s (by omega) (by decide) (by omega)) rfl) ?_
        exact ih8 (k + 1) (by omega) (by omega)
  refine z_eqM (sh, (fl I2 60 0 0 0), J3) (memEq (fl_i _ _ _ _ 0 (by omega)).symm rfl) ?_
  exact hL7 _ (0) (by omega) (Nat.lt_succ_self _)

