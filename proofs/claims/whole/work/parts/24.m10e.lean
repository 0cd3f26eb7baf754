theorem or_add : ∀ k, k < 4 → ∀ a, a < 16 → a / 2 ^ k % 2 ≠ 1 → iv ((a : Nat) : Int) ||| iv ((2 ^ k : Nat) : Int) = iv ((a + 2 ^ k : Nat) : Int) := by decide +kernel
theorem or_addk (k : Nat) (hk : k < 4) {a : Int} (ha : 0 ≤ a ∧ a ≤ 15) (hb : ¬ a / ((2 ^ k : Nat) : Int) % 2 = 1) : iv a ||| iv ((2 ^ k : Nat) : Int) = iv (a + ((2 ^ k : Nat) : Int)) := by
  obtain ⟨n, rfl⟩ := Int.eq_ofNat_of_zero_le ha.1
  exact or_add k hk n (by omega) (fun h => hb (by rw [show ((n : Int) / ((2 ^ k : Nat) : Int)) = ((n / 2 ^ k : Nat) : Int) by simp]; omega))
theorem bad_f {k : Int} {S : Mi × Mj} {r0 : Bool} {I0 : Mi} {J0 : Mj} (h : fX10_bad k S = (r0, I0, J0)) : r0 = false := by
  obtain ⟨I, J⟩ := S
  unfold fX10_bad at h
  simp only at h
  split at h <;> (simp only [Prod.mk.injEq] at h; exact h.1.symm)
theorem rwt_told {I : Mi} {J : Mj} {r0 : Bool} {I1 : Mi} {J1 : Mj} (h : fX10_readWhoTold (I, J) = (r0, I1, J1)) (hr : r0 = true) : 0 ≤ gi I1 57 13 ∧ gi I1 57 13 < gi I 60 0 := by
  unfold fX10_readWhoTold at h
  simp only at h
  split at h
  · split at h
    · obtain ⟨⟨r2, I2, J2⟩, hq⟩ : ∃ q, q = fX10_bad 3 ((wi I 57 13 (fd J 64 0 (gi I 60 0))), J) := ⟨_, rfl⟩
      rw [← hq] at h
      have := bad_f hq.symm
      subst this
      simp at h
      rw [hr] at h; simp at h
    · simp only [Prod.mk.injEq] at h
      obtain ⟨-, hI, -⟩ := h
      have hb := fd_bd J 64 0 (gi I 60 0)
      rw [← hI, gi_wi_eq _ _ _ (fd_rng J 64 0 (gi I 60 0))]
      omega
  · obtain ⟨⟨r2, I2, J2⟩, hq⟩ : ∃ q, q = fX10_bad 1 (I, J) := ⟨_, rfl⟩
    rw [← hq] at h
    have := bad_f hq.symm
    subst this
    simp at h
    rw [hr] at h; simp at h

set_option maxHeartbeats 4000000 in
set_option maxRecDepth 100000 in
theorem qX10_has0 {G : Gx} {σ : State} (hC : Cz G σ) {sh : Sh} {I : Mi} {J : Mj} (v : Int) (rv : -2147483648 ≤ v ∧ v < 2147483648) : Ce G σ 1 yX10_has cX10_has 2 (some .boolean) [.int (iv (v)), .int (iv (0))] (sh, I, J) 0 0 (some (.int (iv (b2 (v / 1 % 2 = 1))))) (sh, I, J) := by
  refine Ct.of hC (by decide +kernel) (Nat.le_of_ble_eq_true rfl) ?_
  intro p l e R s m args below meth c C
  show Jz G σ p l e R s m args below meth c 2 0 0 (Qx (some (.int (iv (b2 (v / 1 % 2 = 1))))) (sh, I, J)) (sh, I, J) 0 0 0 [(0, .int (iv (v))), (1, .int (iv (0)))] []
  refine z_iload_n C dX10_has_0 0 rfl ?_
  refine z_iload_n C dX10_has_1 1 rfl ?_
  refine z_ishr (v / 1) C dX10_has_2 (iv_shr (by omega) (k := 0) (by decide)) ?_
  refine z_iconst C dX10_has_3 ?_
  refine z_iand ((v / 1) % 2) C dX10_has_4 (iv_mask _ (m := 1) (k := 1) rfl (by decide)) ?_
  refine z_iconst C dX10_has_5 ?_
  refine z_icmp_ne 13 C dX10_has_6 (by decide) (by omega) (by decide) (fun h1 => ?_) (fun h1 => ?_)
  ·
    refine z_iconst C dX10_has_13 ?_
    exact z_zreturnx C dX10_has_14 rfl (b2_f (by omega)) rfl
  ·
    refine z_iconst C dX10_has_9 ?_
    refine z_goto 14 C dX10_has_10 (by decide) ?_
    exact z_zreturnx C dX10_has_14 rfl (b2_t (by omega)) rfl

set_option maxHeartbeats 4000000 in
set_option maxRecDepth 100000 in
theorem qX10_has1 {G : Gx} {σ : State} (hC : Cz G σ) {sh : Sh} {I : Mi} {J : Mj} (v : Int) (rv : -2147483648 ≤ v ∧ v < 2147483648) : Ce G σ 1 yX10_has cX10_has 2 (some .boolean) [.int (iv (v)), .int (iv (1))] (sh, I, J) 0 0 (some (.int (iv (b2 (v / 2 % 2 = 1))))) (sh, I, J) := by
  refine Ct.of hC (by decide +kernel) (Nat.le_of_ble_eq_true rfl) ?_
  intro p l e R s m args below meth c C
  show Jz G σ p l e R s m args below meth c 2 0 0 (Qx (some (.int (iv (b2 (v / 2 % 2 = 1))))) (sh, I, J)) (sh, I, J) 0 0 0 [(0, .int (iv (v))), (1, .int (iv (1)))] []
  refine z_iload_n C dX10_has_0 0 rfl ?_
  refine z_iload_n C dX10_has_1 1 rfl ?_
  refine z_ishr (v / 2) C dX10_has_2 (iv_shr (by omega) (k := 1) (by decide)) ?_
  refine z_iconst C dX10_has_3 ?_
  refine z_iand ((v / 2) % 2) C dX10_has_4 (iv_mask _ (m := 1) (k := 1) rfl (by decide)) ?_
  refine z_iconst C dX10_has_5 ?_
  refine z_icmp_ne 13 C dX10_has_6 (by decide) (by omega) (by decide) (fun h1 => ?_) (fun h1 => ?_)
  ·
    refine z_iconst C dX10_has_13 ?_
    exact z_zreturnx C dX10_has_14 rfl (b2_f (by omega)) rfl
  ·
    refine z_iconst C dX10_has_9 ?_
    refine z_goto 14 C dX10_has_10 (by decide) ?_
    exact z_zreturnx C dX10_has_14 rfl (b2_t (by omega)) rfl

set_option maxHeartbeats 4000000 in
set_option maxRecDepth 100000 in
theorem qX10_has2 {G : Gx} {σ : State} (hC : Cz G σ) {sh : Sh} {I : Mi} {J : Mj} (v : Int) (rv : -2147483648 ≤ v ∧ v < 2147483648) : Ce G σ 1 yX10_has cX10_has 2 (some .boolean) [.int (iv (v)), .int (iv (2))] (sh, I, J) 0 0 (some (.int (iv (b2 (v / 4 % 2 = 1))))) (sh, I, J) := by
  refine Ct.of hC (by decide +kernel) (Nat.le_of_ble_eq_true rfl) ?_
  intro p l e R s m args below meth c C
  show Jz G σ p l e R s m args below meth c 2 0 0 (Qx (some (.int (iv (b2 (v / 4 % 2 = 1))))) (sh, I, J)) (sh, I, J) 0 0 0 [(0, .int (iv (v))), (1, .int (iv (2)))] []
  refine z_iload_n C dX10_has_0 0 rfl ?_
  refine z_iload_n C dX10_has_1 1 rfl ?_
  refine z_ishr (v / 4) C dX10_has_2 (iv_shr (by omega) (k := 2) (by decide)) ?_
  refine z_iconst C dX10_has_3 ?_
  refine z_iand ((v / 4) % 2) C dX10_has_4 (iv_mask _ (m := 1) (k := 1) rfl (by decide)) ?_
  refine z_iconst C dX10_has_5 ?_
  refine z_icmp_ne 13 C dX10_has_6 (by decide) (by omega) (by decide) (fun h1 => ?_) (fun h1 => ?_)
  ·
    refine z_iconst C dX10_has_13 ?_
    exact z_zreturnx C dX10_has_14 rfl (b2_f (by omega)) rfl
  ·
    refine z_iconst C dX10_has_9 ?_
    refine z_goto 14 C dX10_has_10 (by decide) ?_
    exact z_zreturnx C dX10_has_14 rfl (b2_t (by omega)) rfl

set_option maxHeartbeats 4000000 in
set_option maxRecDepth 100000 in
theorem qX10_has3 {G : Gx} {σ : State} (hC : Cz G σ) {sh : Sh} {I : Mi} {J : Mj} (v : Int) (rv : -2147483648 ≤ v ∧ v < 2147483648) : Ce G σ 1 yX10_has cX10_has 2 (some .boolean) [.int (iv (v)), .int (iv (3))] (sh, I, J) 0 0 (some (.int (iv (b2 (v / 8 % 2 = 1))))) (sh, I, J) := by
  refine Ct.of hC (by decide +kernel) (Nat.le_of_ble_eq_true rfl) ?_
  intro p l e R s m args below meth c C
  show Jz G σ p l e R s m args below meth c 2 0 0 (Qx (some (.int (iv (b2 (v / 8 % 2 = 1))))) (sh, I, J)) (sh, I, J) 0 0 0 [(0, .int (iv (v))), (1, .int (iv (3)))] []
  refine z_iload_n C dX10_has_0 0 rfl ?_
  refine z_iload_n C dX10_has_1 1 rfl ?_
  refine z_ishr (v / 8) C dX10_has_2 (iv_shr (by omega) (k := 3) (by decide)) ?_
  refine z_iconst C dX10_has_3 ?_
  refine z_iand ((v / 8) % 2) C dX10_has_4 (iv_mask _ (m := 1) (k := 1) rfl (by decide)) ?_
  refine z_iconst C dX10_has_5 ?_
  refine z_icmp_ne 13 C dX10_has_6 (by decide) (by omega) (by decide) (fun h1 => ?_) (fun h1 => ?_)
  ·
    refine z_iconst C dX10_has_13 ?_
    exact z_zreturnx C dX10_has_14 rfl (b2_f (by omega)) rfl
  ·
    refine z_iconst C dX10_has_9 ?_
    refine z_goto 14 C dX10_has_10 (by decide) ?_
    exact z_zreturnx C dX10_has_14 rfl (b2_t (by omega)) rfl

noncomputable def fX10_readOnce0 (S : Mi × Mj) : Bool × Mi × Mj :=
  match S with
  | (I, J) =>
    if (gi I 57 24) / 1 % 2 = 1 then
      match fX10_bad 3 (I, J) with
      | (r15, I16, J17) =>
        (decide (r15 = true), I16, J17)
    else
      match fX10_go ((wi I 57 24 ((gi I 57 24) + 1)), J) with
      | (r2, I3, J4) =>
        match fX10_readNumber 0 100 (I3, J4) with
        | (r7, I8, J9) =>
          if r7 = true then
            (true, (wi I8 60 3 (gi I8 57 13)), J9)
          else
            (false, I8, J9)
theorem frX10_readOnce0 {S : Mi × Mj} {r0 : Bool} {I0 : Mi} {J0 : Mj} (h : fX10_readOnce0  S = (r0, I0, J0)) (aq kq : Nat) (haq : ¬ (aq = 57 ∧ kq = 10) ∧ ¬ (aq = 57 ∧ kq = 11) ∧ ¬ (aq = 57 ∧ kq = 13) ∧ ¬ (aq = 57 ∧ kq = 24) ∧ ¬ (aq = 57 ∧ kq = 5) ∧ ¬ (aq = 57 ∧ kq = 6) ∧ ¬ (aq = 57 ∧ kq = 7) ∧ ¬ (aq = 57 ∧ kq = 8) ∧ ¬ (aq = 57 ∧ kq = 9) ∧ ¬ (aq = 60 ∧ kq = 3)) : I0 aq kq = S.1 aq kq := by
  obtain ⟨I, J⟩ := S
  unfold fX10_readOnce0 at h
  try simp only at h
  by_cases hq1 : (gi I 57 24) / 1 % 2 = 1
  · simp only [if_pos hq1] at h
    obtain ⟨⟨r15, I16, J17⟩, hq2⟩ : ∃ q, q = fX10_bad 3 (I, J) := ⟨_, rfl⟩
    rw [← hq2] at h; try simp only at h
    simp only [Prod.mk.injEq] at h
    obtain ⟨-, hI, hJ⟩ := h
    exact (congrFun (congrFun hI aq) kq).symm.trans (Eq.trans (frX10_bad hq2.symm aq kq ⟨haq.1, haq.2.1⟩) rfl)
  · simp only [if_neg hq1] at h
    obtain ⟨⟨r2, I3, J4⟩, hq3⟩ : ∃ q, q = fX10_go ((wi I 57 24 ((gi I 57 24) + 1)), J) := ⟨_, rfl⟩
    rw [← hq3] at h; try simp only at h
    obtain ⟨⟨r7, I8, J9⟩, hq4⟩ : ∃ q, q = fX10_readNumber 0 100 (I3, J4) := ⟨_, rfl⟩
    rw [← hq4] at h; try simp only at h
    by_cases hq5 : r7 = true
    · simp only [if_pos hq5] at h
      simp only [Prod.mk.injEq] at h
      obtain ⟨-, hI, hJ⟩ := h
      exact (congrFun (congrFun hI aq) kq).symm.trans (Eq.trans (wi_nc _ _ haq.2.2.2.2.2.2.2.2.2) (Eq.trans (frX10_readNumber hq4.symm aq kq ⟨haq.1, haq.2.1, haq.2.2.1, haq.2.2.2.2.1, haq.2.2.2.2.2.1, haq.2.2.2.2.2.2.1, haq.2.2.2.2.2.2.2.1, haq.2.2.2.2.2.2.2.2.1⟩) (Eq.trans (frX10_go hq3.symm aq kq ⟨haq.2.2.2.2.1, haq.2.2.2.2.2.1, haq.2.2.2.2.2.2.1, haq.2.2.2.2.2.2.2.1, haq.2.2.2.2.2.2.2.2.1⟩) (Eq.trans (wi_nc _ _ haq.2.2.2.1) rfl))))
    · simp only [if_neg hq5] at h
      simp only [Prod.mk.injEq] at h
      obtain ⟨-, hI, hJ⟩ := h
      exact (congrFun (congrFun hI aq) kq).symm.trans (Eq.trans (frX10_readNumber hq4.symm aq kq ⟨haq.1, haq.2.1, haq.2.2.1, haq.2.2.2.2.1, haq.2.2.2.2.2.1, haq.2.2.2.2.2.2.1, haq.2.2.2.2.2.2.2.1, haq.2.2.2.2.2.2.2.2.1⟩) (Eq.trans (frX10_go hq3.symm aq kq ⟨haq.2.2.2.2.1, haq.2.2.2.2.2.1, haq.2.2.2.2.2.2.1, haq.2.2.2.2.2.2.2.1, haq.2.2.2.2.2.2.2.2.1⟩) (Eq.trans (wi_nc _ _ haq.2.2.2.1) rfl)))
theorem fjX10_readOnce0 {S : Mi × Mj} {r0 : Bool} {I0 : Mi} {J0 : Mj} (h : fX10_readOnce0  S = (r0, I0, J0)) (aq kq : Nat) (haq : ¬ (aq = 57 ∧ kq = 12)) : J0 aq kq = S.2 aq kq := by
  obtain ⟨I, J⟩ := S
  unfold fX10_readOnce0 at h
  try simp only at h
  by_cases hq1 : (gi I 57 24) / 1 % 2 = 1
  · simp only [if_pos hq1] at h
    obtain ⟨⟨r15, I16, J17⟩, hq2⟩ : ∃ q, q = fX10_bad 3 (I, J) := ⟨_, rfl⟩
    rw [← hq2] at h; try simp only at h
    simp only [Prod.mk.injEq] at h
    obtain ⟨-, hI, hJ⟩ := h
    exact (congrFun (congrFun hJ aq) kq).symm.trans (Eq.trans (fjX10_bad hq2.symm aq kq trivial) rfl)
  · simp only [if_neg hq1] at h
    obtain ⟨⟨r2, I3, J4⟩, hq3⟩ : ∃ q, q = fX10_go ((wi I 57 24 ((gi I 57 24) + 1)), J) := ⟨_, rfl⟩
    rw [← hq3] at h; try simp only at h
    obtain ⟨⟨r7, I8, J9⟩, hq4⟩ : ∃ q, q = fX10_readNumber 0 100 (I3, J4) := ⟨_, rfl⟩
    rw [← hq4] at h; try simp only at h
    by_cases hq5 : r7 = true
    · simp only [if_pos hq5] at h
      simp only [Prod.mk.injEq] at h
      obtain ⟨-, hI, hJ⟩ := h
      exact (congrFun (congrFun hJ aq) kq).symm.trans (Eq.trans (fjX10_readNumber hq4.symm aq kq haq) (Eq.trans (fjX10_go hq3.symm aq kq haq) rfl))
    · simp only [if_neg hq5] at h
      simp only [Prod.mk.injEq] at h
      obtain ⟨-, hI, hJ⟩ := h
      exact (congrFun (congrFun hJ aq) kq).symm.trans (Eq.trans (fjX10_readNumber hq4.symm aq kq haq) (Eq.trans (fjX10_go hq3.symm aq kq haq) rfl))
theorem okX10_readOnce0 {I : Mi} {J : Mj} {r0 : Bool} {I0 : Mi} {J0 : Mj} (h : fX10_readOnce0  (I, J) = (r0, I0, J0)) (hl : LX I) : LX I0 := by
  unfold fX10_readOnce0 at h
  try simp only at h
  have hb0 := hl
  unfold LX at hb0
  by_cases hq1 : (gi I 57 24) / 1 % 2 = 1
  · simp only [if_pos hq1] at h
    obtain ⟨⟨r15, I16, J17⟩, hq2⟩ : ∃ q, q = fX10_bad 3 (I, J) := ⟨_, rfl⟩
    rw [← hq2] at h; try simp only at h
    have hl2 : LX I16 := okX10_bad hq2.symm hl; have hbhl2 := hl2; unfold LX at hbhl2
    simp only [Prod.mk.injEq] at h
    obtain ⟨-, hI, hJ⟩ := h
    rw [← hI]
    exact hl2
  · simp only [if_neg hq1] at h
    obtain ⟨⟨r2, I3, J4⟩, hq3⟩ : ∃ q, q = fX10_go ((wi I 57 24 ((gi I 57 24) + 1)), J) := ⟨_, rfl⟩
    rw [← hq3] at h; try simp only at h
    have hl3 : LX I3 := okX10_go hq3.symm (by have hb := hl; unfold LX at hb ⊢; have : gi (wi I 57 24 ((gi I 57 24) + 1)) 57 3 = gi I 57 3 := (gi_wi_nk _ _ _ (by decide)); have : gi (wi I 57 24 ((gi I 57 24) + 1)) 57 5 = gi I 57 5 := (gi_wi_nk _ _ _ (by decide)); have : gi (wi I 57 24 ((gi I 57 24) + 1)) 60 0 = gi I 60 0 := (gi_wi_na _ _ _ _ (by decide)); have : gi (wi I 57 24 ((gi I 57 24) + 1)) 60 1 = gi I 60 1 := (gi_wi_na _ _ _ _ (by decide)); have : gi (wi I 57 24 ((gi I 57 24) + 1)) 59 0 = gi I 59 0 := (gi_wi_na _ _ _ _ (by decide)); have : gi (wi I 57 24 ((gi I 57 24) + 1)) 57 24 = (gi I 57 24) + 1 := (gi_wi_eq (x := (gi I 57 24) + 1) _ _ _ (by have := gi_rng I 57 24; omega)); omega); have hbhl3 := hl3; unfold LX at hbhl3
    obtain ⟨⟨r7, I8, J9⟩, hq4⟩ : ∃ q, q = fX10_readNumber 0 100 (I3, J4) := ⟨_, rfl⟩
    rw [← hq4] at h; try simp only at h
    have hl4 : LX I8 := okX10_readNumber hq4.symm hl3; have hbhl4 := hl4; unfold LX at hbhl4
    by_cases hq5 : r7 = true
    · simp only [if_pos hq5] at h
      simp only [Prod.mk.injEq] at h
      obtain ⟨-, hI, hJ⟩ := h
      rw [← hI]
      exact (by have hb := hl4; unfold LX at hb ⊢; have : gi (wi I8 60 3 (gi I8 57 13)) 57 3 = gi I8 57 3 := (gi_wi_na _ _ _ _ (by decide)); have : gi (wi I8 60 3 (gi I8 57 13)) 57 5 = gi I8 57 5 := (gi_wi_na _ _ _ _ (by decide)); have : gi (wi I8 60 3 (gi I8 57 13)) 60 0 = gi I8 60 0 := (gi_wi_nk _ _ _ (by decide)); have : gi (wi I8 60 3 (gi I8 57 13)) 60 1 = gi I8 60 1 := (gi_wi_nk _ _ _ (by decide)); have : gi (wi I8 60 3 (gi I8 57 13)) 59 0 = gi I8 59 0 := (gi_wi_na _ _ _ _ (by decide)); have : gi (wi I8 60 3 (gi I8 57 13)) 57 24 = gi I8 57 24 := (gi_wi_na _ _ _ _ (by decide)); omega)
    · simp only [if_neg hq5] at h
      simp only [Prod.mk.injEq] at h
      obtain ⟨-, hI, hJ⟩ := h
      rw [← hI]
      exact hl4
set_option maxHeartbeats 4000000 in
set_option maxRecDepth 100000 in
theorem qX10_readOnce0 {G : Gx} {σ : State} (hC : Cz G σ) {sh : Sh} {I : Mi} {J : Mj}  (hS : St sh) (hl : LX I) : Ce G σ 5 yX10_readOnce cX10_readOnce 5 (some .boolean) [.ref (G.2.2 + 57), .int (iv (0)), .int (iv (3)), .int (iv (0)), .int (iv (100))] (sh, I, J) 0 0 (some (.int (iv (b2 ((fX10_readOnce0 (I, J)).1 = true))))) (sh, (fX10_readOnce0 (I, J)).2.1, (fX10_readOnce0 (I, J)).2.2) := by
  refine Ct.of hC (by decide +kernel) (Nat.le_of_ble_eq_true rfl) ?_
  intro p l e R s m args below meth c C
  show Jz G σ p l e R s m args below meth c 5 0 0 (Qx (some (.int (iv (b2 ((fX10_readOnce0 (I, J)).1 = true))))) (sh, (fX10_readOnce0 (I, J)).2.1, (fX10_readOnce0 (I, J)).2.2)) (sh, I, J) 0 0 0 [(0, .ref (G.2.2 + 57)), (1, .int (iv (0))), (2, .int (iv (3))), (3, .int (iv (0))), (4, .int (iv (100)))] []
  have hb0 := hl
  unfold LX at hb0
  refine z_aload_n C dX10_readOnce_0 0 rfl ?_
  refine z_getI C dX10_readOnce_1 fX10_212 rfl (kd_57 hS) ?_
  refine z_iload_n C dX10_readOnce_4 1 rfl ?_
  refine z_cSi (st := []) C dX10_readOnce_5 mX10_215 (qX10_has0 hC (gi I 57 24) (by have := gi_rng I 57 24; omega)) rfl rfl (Nat.le_of_ble_eq_true rfl) (by decide) ?_
  refine z_if_eq_b 17 C dX10_readOnce_8 (by decide) (fun h1 => ?_) (fun h1 => ?_)
  ·
    refine z_aload_n C dX10_readOnce_17 0 rfl ?_
    refine z_dup C dX10_readOnce_18 rfl ?_
    refine z_getI C dX10_readOnce_19 fX10_212 rfl (kd_57 hS) ?_
    refine z_iconst C dX10_readOnce_22 ?_
    refine z_iload_n C dX10_readOnce_23 1 rfl ?_
    refine z_ishl (1) C dX10_readOnce_24 (by decide) ?_
    refine z_ior ((gi I 57 24) + 1) C dX10_readOnce_25 (or_addk 0 (by decide) (by omega) (by assumption)) ?_
    refine z_putI C dX10_readOnce_26 fX10_212 rfl rfl (kd_57 hS) rfl rfl ?_
    refine z_aload_n C dX10_readOnce_29 0 rfl ?_
    refine z_cVvF (st := []) (F := fX10_go ((wi I 57 24 ((gi I 57 24) + 1)), J)) C dX10_readOnce_30 mX10_161 (kd_57 hS) (qX10_go hC  hS (by have hb := hl; unfold LX at hb ⊢; have : gi (wi I 57 24 ((gi I 57 24) + 1)) 57 3 = gi I 57 3 := (gi_wi_nk _ _ _ (by decide)); have : gi (wi I 57 24 ((gi I 57 24) + 1)) 57 5 = gi I 57 5 := (gi_wi_nk _ _ _ (by decide)); have : gi (wi I 57 24 ((gi I 57 24) + 1)) 60 0 = gi I 60 0 := (gi_wi_na _ _ _ _ (by decide)); have : gi (wi I 57 24 ((gi I 57 24) + 1)) 60 1 = gi I 60 1 := (gi_wi_na _ _ _ _ (by decide)); have : gi (wi I 57 24 ((gi I 57 24) + 1)) 59 0 = gi I 59 0 := (gi_wi_na _ _ _ _ (by decide)); have : gi (wi I 57 24 ((gi I 57 24) + 1)) 57 24 = (gi I 57 24) + 1 := (gi_wi_eq (x := (gi I 57 24) + 1) _ _ _ (by have := gi_rng I 57 24; omega)); omega)) rfl rfl (Nat.le_of_ble_eq_true rfl) (by decide) (fun r2 I3 J4 hT5 => ?_)
    have hl6 : LX I3 := okX10_go hT5 (by have hb := hl; unfold LX at hb ⊢; have : gi (wi I 57 24 ((gi I 57 24) + 1)) 57 3 = gi I 57 3 := (gi_wi_nk _ _ _ (by decide)); have : gi (wi I 57 24 ((gi I 57 24) + 1)) 57 5 = gi I 57 5 := (gi_wi_nk _ _ _ (by decide)); have : gi (wi I 57 24 ((gi I 57 24) + 1)) 60 0 = gi I 60 0 := (gi_wi_na _ _ _ _ (by decide)); have : gi (wi I 57 24 ((gi I 57 24) + 1)) 60 1 = gi I 60 1 := (gi_wi_na _ _ _ _ (by decide)); have : gi (wi I 57 24 ((gi I 57 24) + 1)) 59 0 = gi I 59 0 := (gi_wi_na _ _ _ _ (by decide)); have : gi (wi I 57 24 ((gi I 57 24) + 1)) 57 24 = (gi I 57 24) + 1 := (gi_wi_eq (x := (gi I 57 24) + 1) _ _ _ (by have := gi_rng I 57 24; omega)); omega); have hbhl6 := hl6; unfold LX at hbhl6
    refine z_aload_n C dX10_readOnce_33 0 rfl ?_
    refine z_iload_n C dX10_readOnce_34 3 rfl ?_
    refine z_iload C dX10_readOnce_35 4 rfl ?_
    refine z_cVibF (st := []) (F := fX10_readNumber 0 100 (I3, J4)) C dX10_readOnce_37 mX10_205 (kd_57 hS) (qX10_readNumber hC 0 100 hS hl6 (by omega) (by omega)) rfl rfl (Nat.le_of_ble_eq_true rfl) (by decide) (fun r7 I8 J9 hT10 => ?_)
    have hl11 : LX I8 := okX10_readNumber hT10 hl6; have hbhl11 := hl11; unfold LX at hbhl11
    refine z_if_ne_b 45 C dX10_readOnce_40 (by decide) (fun h12 => ?_) (fun h12 => ?_)
    ·
      refine z_aload_n C dX10_readOnce_45 0 rfl ?_
      refine z_getR C dX10_readOnce_46 fX10_16 rfl (kd_57 hS) (r_57_15 hS) ?_
      refine z_iload_n C dX10_readOnce_49 2 rfl ?_
      refine z_aload_n C dX10_readOnce_50 0 rfl ?_
      refine z_getI C dX10_readOnce_51 fX10_158 rfl (kd_57 hS) ?_
      refine z_iast (q := 3) C dX10_readOnce_54 (ka_60 hS) rfl (by decide) ?_
      refine z_iconst C dX10_readOnce_55 ?_
      have hf13 : fX10_readOnce0 (I, J) = (true, (wi I8 60 3 (gi I8 57 13)), J9) := (by simp only [fX10_readOnce0, if_neg h1, hT5, hT10, if_pos h12])
      exact z_zreturnx C dX10_readOnce_56 rfl (by rw [hf13]; rfl) (by rw [hf13])
    ·
      refine z_iconst C dX10_readOnce_43 ?_
      have hf14 : fX10_readOnce0 (I, J) = (false, I8, J9) := (by simp only [fX10_readOnce0, if_neg h1, hT5, hT10, if_neg h12])
      exact z_zreturnx C dX10_readOnce_44 rfl (by rw [hf14]; rfl) (by rw [hf14])
  ·
    refine z_aload_n C dX10_readOnce_11 0 rfl ?_
    refine z_iconst C dX10_readOnce_12 ?_
    refine z_cVibF (st := []) (F := fX10_bad 3 (I, J)) C dX10_readOnce_13 mX10_151 (kd_57 hS) (qX10_bad hC 3 hS (by omega)) rfl rfl (Nat.le_of_ble_eq_true rfl) (by decide) (fun r15 I16 J17 hT18 => ?_)
    have hl19 : LX I16 := okX10_bad hT18 hl; have hbhl19 := hl19; unfold LX at hbhl19
    have hf20 : fX10_readOnce0 (I, J) = (decide (r15 = true), I16, J17) := (by simp only [fX10_readOnce0, if_pos h1, hT18])
    exact z_zreturnx C dX10_readOnce_16 (b2_nar _) (by rw [hf20]; simp [b2]) (by rw [hf20])

noncomputable def fX10_readOnce1 (S : Mi × Mj) : Bool × Mi × Mj :=
  match S with
  | (I, J) =>
    if (gi I 57 24) / 2 % 2 = 1 then
      match fX10_bad 3 (I, J) with
      | (r15, I16, J17) =>
        (decide (r15 = true), I16, J17)
    else
      match fX10_go ((wi I 57 24 ((gi I 57 24) + 2)), J) with
      | (r2, I3, J4) =>
        match fX10_readNumber 0 200 (I3, J4) with
        | (r7, I8, J9) =>
          if r7 = true then
            (true, (wi I8 60 4 (gi I8 57 13)), J9)
          else
            (false, I8, J9)
theorem frX10_readOnce1 {S : Mi × Mj} {r0 : Bool} {I0 : Mi} {J0 : Mj} (h : fX10_readOnce1  S = (r0, I0, J0)) (aq kq : Nat) (haq : ¬ (aq = 57 ∧ kq = 10) ∧ ¬ (aq = 57 ∧ kq = 11) ∧ ¬ (aq = 57 ∧ kq = 13) ∧ ¬ (aq = 57 ∧ kq = 24) ∧ ¬ (aq = 57 ∧ kq = 5) ∧ ¬ (aq = 57 ∧ kq = 6) ∧ ¬ (aq = 57 ∧ kq = 7) ∧ ¬ (aq = 57 ∧ kq = 8) ∧ ¬ (aq = 57 ∧ kq = 9) ∧ ¬ (aq = 60 ∧ kq = 4)) : I0 aq kq = S.1 aq kq := by
  obtain ⟨I, J⟩ := S
  unfold fX10_readOnce1 at h
  try simp only at h
  by_cases hq1 : (gi I 57 24) / 2 % 2 = 1
  · simp only [if_pos hq1] at h
    obtain ⟨⟨r15, I16, J17⟩, hq2⟩ : ∃ q, q = fX10_bad 3 (I, J) := ⟨_, rfl⟩
    rw [← hq2] at h; try simp only at h
    simp only [Prod.mk.injEq] at h
    obtain ⟨-, hI, hJ⟩ := h
    exact (congrFun (congrFun hI aq) kq).symm.trans (Eq.trans (frX10_bad hq2.symm aq kq ⟨haq.1, haq.2.1⟩) rfl)
  · simp only [if_neg hq1] at h
    obtain ⟨⟨r2, I3, J4⟩, hq3⟩ : ∃ q, q = fX10_go ((wi I 57 24 ((gi I 57 24) + 2)), J) := ⟨_, rfl⟩
    rw [← hq3] at h; try simp only at h
    obtain ⟨⟨r7, I8, J9⟩, hq4⟩ : ∃ q, q = fX10_readNumber 0 200 (I3, J4) := ⟨_, rfl⟩
    rw [← hq4] at h; try simp only at h
    by_cases hq5 : r7 = true
    · simp only [if_pos hq5] at h
      simp only [Prod.mk.injEq] at h
      obtain ⟨-, hI, hJ⟩ := h
      exact (congrFun (congrFun hI aq) kq).symm.trans (Eq.trans (wi_nc _ _ haq.2.2.2.2.2.2.2.2.2) (Eq.trans (frX10_readNumber hq4.symm aq kq ⟨haq.1, haq.2.1, haq.2.2.1, haq.2.2.2.2.1, haq.2.2.2.2.2.1, haq.2.2.2.2.2.2.1, haq.2.2.2.2.2.2.2.1, haq.2.2.2.2.2.2.2.2.1⟩) (Eq.trans (frX10_go hq3.symm aq kq ⟨haq.2.2.2.2.1, haq.2.2.2.2.2.1, haq.2.2.2.2.2.2.1, haq.2.2.2.2.2.2.2.1, haq.2.2.2.2.2.2.2.2.1⟩) (Eq.trans (wi_nc _ _ haq.2.2.2.1) rfl))))
    · simp only [if_neg hq5] at h
      simp only [Prod.mk.injEq] at h
      obtain ⟨-, hI, hJ⟩ := h
      exact (congrFun (congrFun hI aq) kq).symm.trans (Eq.trans (frX10_readNumber hq4.symm aq kq ⟨haq.1, haq.2.1, haq.2.2.1, haq.2.2.2.2.1, haq.2.2.2.2.2.1, haq.2.2.2.2.2.2.1, haq.2.2.2.2.2.2.2.1, haq.2.2.2.2.2.2.2.2.1⟩) (Eq.trans (frX10_go hq3.symm aq kq ⟨haq.2.2.2.2.1, haq.2.2.2.2.2.1, haq.2.2.2.2.2.2.1, haq.2.2.2.2.2.2.2.1, haq.2.2.2.2.2.2.2.2.1⟩) (Eq.trans (wi_nc _ _ haq.2.2.2.1) rfl)))
theorem fjX10_readOnce1 {S : Mi × Mj} {r0 : Bool} {I0 : Mi} {J0 : Mj} (h : fX10_readOnce1  S = (r0, I0, J0)) (aq kq : Nat) (haq : ¬ (aq = 57 ∧ kq = 12)) : J0 aq kq = S.2 aq kq := by
  obtain ⟨I, J⟩ := S
  unfold fX10_readOnce1 at h
  try simp only at h
  by_cases hq1 : (gi I 57 24) / 2 % 2 = 1
  · simp only [if_pos hq1] at h
    obtain ⟨⟨r15, I16, J17⟩, hq2⟩ : ∃ q, q = fX10_bad 3 (I, J) := ⟨_, rfl⟩
    rw [← hq2] at h; try simp only at h
    simp only [Prod.mk.injEq] at h
    obtain ⟨-, hI, hJ⟩ := h
    exact (congrFun (congrFun hJ aq) kq).symm.trans (Eq.trans (fjX10_bad hq2.symm aq kq trivial) rfl)
  · simp only [if_neg hq1] at h
    obtain ⟨⟨r2, I3, J4⟩, hq3⟩ : ∃ q, q = fX10_go ((wi I 57 24 ((gi I 57 24) + 2)), J) := ⟨_, rfl⟩
    rw [← hq3] at h; try simp only at h
    obtain ⟨⟨r7, I8, J9⟩, hq4⟩ : ∃ q, q = fX10_readNumber 0 200 (I3, J4) := ⟨_, rfl⟩
    rw [← hq4] at h; try simp only at h
    by_cases hq5 : r7 = true
    · simp only [if_pos hq5] at h
      simp only [Prod.mk.injEq] at h
      obtain ⟨-, hI, hJ⟩ := h
      exact (congrFun (congrFun hJ aq) kq).symm.trans (Eq.trans (fjX10_readNumber hq4.symm aq kq haq) (Eq.trans (fjX10_go hq3.symm aq kq haq) rfl))
    · simp only [if_neg hq5] at h
      simp only [Prod.mk.injEq] at h
      obtain ⟨-, hI, hJ⟩ := h
      exact (congrFun (congrFun hJ aq) kq).symm.trans (Eq.trans (fjX10_readNumber hq4.symm aq kq haq) (Eq.trans (fjX10_go hq3.symm aq kq haq) rfl))
theorem okX10_readOnce1 {I : Mi} {J : Mj} {r0 : Bool} {I0 : Mi} {J0 : Mj} (h : fX10_readOnce1  (I, J) = (r0, I0, J0)) (hl : LX I) : LX I0 := by
  unfold fX10_readOnce1 at h
  try simp only at h
  have hb0 := hl
  unfold LX at hb0
  by_cases hq1 : (gi I 57 24) / 2 % 2 = 1
  · simp only [if_pos hq1] at h
    obtain ⟨⟨r15, I16, J17⟩, hq2⟩ : ∃ q, q = fX10_bad 3 (I, J) := ⟨_, rfl⟩
    rw [← hq2] at h; try simp only at h
    have hl2 : LX I16 := okX10_bad hq2.symm hl; have hbhl2 := hl2; unfold LX at hbhl2
    simp only [Prod.mk.injEq] at h
    obtain ⟨-, hI, hJ⟩ := h
    rw [← hI]
    exact hl2
  · simp only [if_neg hq1] at h
    obtain ⟨⟨r2, I3, J4⟩, hq3⟩ : ∃ q, q = fX10_go ((wi I 57 24 ((gi I 57 24) + 2)), J) := ⟨_, rfl⟩
    rw [← hq3] at h; try simp only at h
    have hl3 : LX I3 := okX10_go hq3.symm (by have hb := hl; unfold LX at hb ⊢; have : gi (wi I 57 24 ((gi I 57 24) + 2)) 57 3 = gi I 57 3 := (gi_wi_nk _ _ _ (by decide)); have : gi (wi I 57 24 ((gi I 57 24) + 2)) 57 5 = gi I 57 5 := (gi_wi_nk _ _ _ (by decide)); have : gi (wi I 57 24 ((gi I 57 24) + 2)) 60 0 = gi I 60 0 := (gi_wi_na _ _ _ _ (by decide)); have : gi (wi I 57 24 ((gi I 57 24) + 2)) 60 1 = gi I 60 1 := (gi_wi_na _ _ _ _ (by decide)); have : gi (wi I 57 24 ((gi I 57 24) + 2)) 59 0 = gi I 59 0 := (gi_wi_na _ _ _ _ (by decide)); have : gi (wi I 57 24 ((gi I 57 24) + 2)) 57 24 = (gi I 57 24) + 2 := (gi_wi_eq (x := (gi I 57 24) + 2) _ _ _ (by have := gi_rng I 57 24; omega)); omega); have hbhl3 := hl3; unfold LX at hbhl3
    obtain ⟨⟨r7, I8, J9⟩, hq4⟩ : ∃ q, q = fX10_readNumber 0 200 (I3, J4) := ⟨_, rfl⟩
    rw [← hq4] at h; try simp only at h
    have hl4 : LX I8 := okX10_readNumber hq4.symm hl3; have hbhl4 := hl4; unfold LX at hbhl4
    by_cases hq5 : r7 = true
    · simp only [if_pos hq5] at h
      simp only [Prod.mk.injEq] at h
      obtain ⟨-, hI, hJ⟩ := h
      rw [← hI]
      exact (by have hb := hl4; unfold LX at hb ⊢; have : gi (wi I8 60 4 (gi I8 57 13)) 57 3 = gi I8 57 3 := (gi_wi_na _ _ _ _ (by decide)); have : gi (wi I8 60 4 (gi I8 57 13)) 57 5 = gi I8 57 5 := (gi_wi_na _ _ _ _ (by decide)); have : gi (wi I8 60 4 (gi I8 57 13)) 60 0 = gi I8 60 0 := (gi_wi_nk _ _ _ (by decide)); have : gi (wi I8 60 4 (gi I8 57 13)) 60 1 = gi I8 60 1 := (gi_wi_nk _ _ _ (by decide)); have : gi (wi I8 60 4 (gi I8 57 13)) 59 0 = gi I8 59 0 := (gi_wi_na _ _ _ _ (by decide)); have : gi (wi I8 60 4 (gi I8 57 13)) 57 24 = gi I8 57 24 := (gi_wi_na _ _ _ _ (by decide)); omega)
    · simp only [if_neg hq5] at h
      simp only [Prod.mk.injEq] at h
      obtain ⟨-, hI, hJ⟩ := h
      rw [← hI]
      exact hl4
set_option maxHeartbeats 4000000 in
set_option maxRecDepth 100000 in
theorem qX10_readOnce1 {G : Gx} {σ : State} (hC : Cz G σ) {sh : Sh} {I : Mi} {J : Mj}  (hS : St sh) (hl : LX I) : Ce G σ 5 yX10_readOnce cX10_readOnce 5 (some .boolean) [.ref (G.2.2 + 57), .int (iv (1)), .int (iv (4)), .int (iv (0)), .int (iv (200))] (sh, I, J) 0 0 (some (.int (iv (b2 ((fX10_readOnce1 (I, J)).1 = true))))) (sh, (fX10_readOnce1 (I, J)).2.1, (fX10_readOnce1 (I, J)).2.2) := by
  refine Ct.of hC (by decide +kernel) (Nat.le_of_ble_eq_true rfl) ?_
  intro p l e R s m args below meth c C
  show Jz G σ p l e R s m args below meth c 5 0 0 (Qx (some (.int (iv (b2 ((fX10_readOnce1 (I, J)).1 = true))))) (sh, (fX10_readOnce1 (I, J)).2.1, (fX10_readOnce1 (I, J)).2.2)) (sh, I, J) 0 0 0 [(0, .ref (G.2.2 + 57)), (1, .int (iv (1))), (2, .int (iv (4))), (3, .int (iv (0))), (4, .int (iv (200)))] []
  have hb0 := hl
  unfold LX at hb0
  refine z_aload_n C dX10_readOnce_0 0 rfl ?_
  refine z_getI C dX10_readOnce_1 fX10_212 rfl (kd_57 hS) ?_
  refine z_iload_n C dX10_readOnce_4 1 rfl ?_
  refine z_cSi (st := []) C dX10_readOnce_5 mX10_215 (qX10_has1 hC (gi I 57 24) (by have := gi_rng I 57 24; omega)) rfl rfl (Nat.le_of_ble_eq_true rfl) (by decide) ?_
  refine z_if_eq_b 17 C dX10_readOnce_8 (by decide) (fun h1 => ?_) (fun h1 => ?_)
  ·
    refine z_aload_n C dX10_readOnce_17 0 rfl ?_
    refine z_dup C dX10_readOnce_18 rfl ?_
    refine z_getI C dX10_readOnce_19 fX10_212 rfl (kd_57 hS) ?_
    refine z_iconst C dX10_readOnce_22 ?_
    refine z_iload_n C dX10_readOnce_23 1 rfl ?_
    refine z_ishl (2) C dX10_readOnce_24 (by decide) ?_
    refine z_ior ((gi I 57 24) + 2) C dX10_readOnce_25 (or_addk 1 (by decide) (by omega) (by assumption)) ?_
    refine z_putI C dX10_readOnce_26 fX10_212 rfl rfl (kd_57 hS) rfl rfl ?_
    refine z_aload_n C dX10_readOnce_29 0 rfl ?_
    refine z_cVvF (st := []) (F := fX10_go ((wi I 57 24 ((gi I 57 24) + 2)), J)) C dX10_readOnce_30 mX10_161 (kd_57 hS) (qX10_go hC  hS (by have hb := hl; unfold LX at hb ⊢; have : gi (wi I 57 24 ((gi I 57 24) + 2)) 57 3 = gi I 57 3 := (gi_wi_nk _ _ _ (by decide)); have : gi (wi I 57 24 ((gi I 57 24) + 2)) 57 5 = gi I 57 5 := (gi_wi_nk _ _ _ (by decide)); have : gi (wi I 57 24 ((gi I 57 24) + 2)) 60 0 = gi I 60 0 := (gi_wi_na _ _ _ _ (by decide)); have : gi (wi I 57 24 ((gi I 57 24) + 2)) 60 1 = gi I 60 1 := (gi_wi_na _ _ _ _ (by decide)); have : gi (wi I 57 24 ((gi I 57 24) + 2)) 59 0 = gi I 59 0 := (gi_wi_na _ _ _ _ (by decide)); have : gi (wi I 57 24 ((gi I 57 24) + 2)) 57 24 = (gi I 57 24) + 2 := (gi_wi_eq (x := (gi I 57 24) + 2) _ _ _ (by have := gi_rng I 57 24; omega)); omega)) rfl rfl (Nat.le_of_ble_eq_true rfl) (by decide) (fun r2 I3 J4 hT5 => ?_)
    have hl6 : LX I3 := okX10_go hT5 (by have hb := hl; unfold LX at hb ⊢; have : gi (wi I 57 24 ((gi I 57 24) + 2)) 57 3 = gi I 57 3 := (gi_wi_nk _ _ _ (by decide)); have : gi (wi I 57 24 ((gi I 57 24) + 2)) 57 5 = gi I 57 5 := (gi_wi_nk _ _ _ (by decide)); have : gi (wi I 57 24 ((gi I 57 24) + 2)) 60 0 = gi I 60 0 := (gi_wi_na _ _ _ _ (by decide)); have : gi (wi I 57 24 ((gi I 57 24) + 2)) 60 1 = gi I 60 1 := (gi_wi_na _ _ _ _ (by decide)); have : gi (wi I 57 24 ((gi I 57 24) + 2)) 59 0 = gi I 59 0 := (gi_wi_na _ _ _ _ (by decide)); have : gi (wi I 57 24 ((gi I 57 24) + 2)) 57 24 = (gi I 57 24) + 2 := (gi_wi_eq (x := (gi I 57 24) + 2) _ _ _ (by have := gi_rng I 57 24; omega)); omega); have hbhl6 := hl6; unfold LX at hbhl6
    refine z_aload_n C dX10_readOnce_33 0 rfl ?_
    refine z_iload_n C dX10_readOnce_34 3 rfl ?_
    refine z_iload C dX10_readOnce_35 4 rfl ?_
    refine z_cVibF (st := []) (F := fX10_readNumber 0 200 (I3, J4)) C dX10_readOnce_37 mX10_205 (kd_57 hS) (qX10_readNumber hC 0 200 hS hl6 (by omega) (by omega)) rfl rfl (Nat.le_of_ble_eq_true rfl) (by decide) (fun r7 I8 J9 hT10 => ?_)
    have hl11 : LX I8 := okX10_readNumber hT10 hl6; have hbhl11 := hl11; unfold LX at hbhl11
    refine z_if_ne_b 45 C dX10_readOnce_40 (by decide) (fun h12 => ?_) (fun h12 => ?_)
    ·
      refine z_aload_n C dX10_readOnce_45 0 rfl ?_
      refine z_getR C dX10_readOnce_46 fX10_16 rfl (kd_57 hS) (r_57_15 hS) ?_
      refine z_iload_n C dX10_readOnce_49 2 rfl ?_
      refine z_aload_n C dX10_readOnce_50 0 rfl ?_
      refine z_getI C dX10_readOnce_51 fX10_158 rfl (kd_57 hS) ?_
      refine z_iast (q := 4) C dX10_readOnce_54 (ka_60 hS) rfl (by decide) ?_
      refine z_iconst C dX10_readOnce_55 ?_
      have hf13 : fX10_readOnce1 (I, J) = (true, (wi I8 60 4 (gi I8 57 13)), J9) := (by simp only [fX10_readOnce1, if_neg h1, hT5, hT10, if_pos h12])
      exact z_zreturnx C dX10_readOnce_56 rfl (by rw [hf13]; rfl) (by rw [hf13])
    ·
      refine z_iconst C dX10_readOnce_43 ?_
      have hf14 : fX10_readOnce1 (I, J) = (false, I8, J9) := (by simp only [fX10_readOnce1, if_neg h1, hT5, hT10, if_neg h12])
      exact z_zreturnx C dX10_readOnce_44 rfl (by rw [hf14]; rfl) (by rw [hf14])
  ·
    refine z_aload_n C dX10_readOnce_11 0 rfl ?_
    refine z_iconst C dX10_readOnce_12 ?_
    refine z_cVibF (st := []) (F := fX10_bad 3 (I, J)) C dX10_readOnce_13 mX10_151 (kd_57 hS) (qX10_bad hC 3 hS (by omega)) rfl rfl (Nat.le_of_ble_eq_true rfl) (by decide) (fun r15 I16 J17 hT18 => ?_)
    have hl19 : LX I16 := okX10_bad hT18 hl; have hbhl19 := hl19; unfold LX at hbhl19
    have hf20 : fX10_readOnce1 (I, J) = (decide (r15 = true), I16, J17) := (by simp only [fX10_readOnce1, if_pos h1, hT18])
    exact z_zreturnx C dX10_readOnce_16 (b2_nar _) (by rw [hf20]; simp [b2]) (by rw [hf20])

noncomputable def fX10_readOnce2 (S : Mi × Mj) : Bool × Mi × Mj :=
  match S with
  | (I, J) =>
    if (gi I 57 24) / 4 % 2 = 1 then
      match fX10_bad 3 (I, J) with
      | (r15, I16, J17) =>
        (decide (r15 = true), I16, J17)
    else
      match fX10_go ((wi I 57 24 ((gi I 57 24) + 4)), J) with
      | (r2, I3, J4) =>
        match fX10_readNumber 1 999 (I3, J4) with
        | (r7, I8, J9) =>
          if r7 = true then
            (true, (wi I8 60 5 (gi I8 57 13)), J9)
          else
            (false, I8, J9)
theorem frX10_readOnce2 {S : Mi × Mj} {r0 : Bool} {I0 : Mi} {J0 : Mj} (h : fX10_readOnce2  S = (r0, I0, J0)) (aq kq : Nat) (haq : ¬ (aq = 57 ∧ kq = 10) ∧ ¬ (aq = 57 ∧ kq = 11) ∧ ¬ (aq = 57 ∧ kq = 13) ∧ ¬ (aq = 57 ∧ kq = 24) ∧ ¬ (aq = 57 ∧ kq = 5) ∧ ¬ (aq = 57 ∧ kq = 6) ∧ ¬ (aq = 57 ∧ kq = 7) ∧ ¬ (aq = 57 ∧ kq = 8) ∧ ¬ (aq = 57 ∧ kq = 9) ∧ ¬ (aq = 60 ∧ kq = 5)) : I0 aq kq = S.1 aq kq := by
  obtain ⟨I, J⟩ := S
  unfold fX10_readOnce2 at h
  try simp only at h
  by_cases hq1 : (gi I 57 24) / 4 % 2 = 1
  · simp only [if_pos hq1] at h
    obtain ⟨⟨r15, I16, J17⟩, hq2⟩ : ∃ q, q = fX10_bad 3 (I, J) := ⟨_, rfl⟩
    rw [← hq2] at h; try simp only at h
    simp only [Prod.mk.injEq] at h
    obtain ⟨-, hI, hJ⟩ := h
    exact (congrFun (congrFun hI aq) kq).symm.trans (Eq.trans (frX10_bad hq2.symm aq kq ⟨haq.1, haq.2.1⟩) rfl)
  · simp only [if_neg hq1] at h
    obtain ⟨⟨r2, I3, J4⟩, hq3⟩ : ∃ q, q = fX10_go ((wi I 57 24 ((gi I 57 24) + 4)), J) := ⟨_, rfl⟩
    rw [← hq3] at h; try simp only at h
    obtain ⟨⟨r7, I8, J9⟩, hq4⟩ : ∃ q, q = fX10_readNumber 1 999 (I3, J4) := ⟨_, rfl⟩
    rw [← hq4] at h; try simp only at h
    by_cases hq5 : r7 = true
    · simp only [if_pos hq5] at h
      simp only [Prod.mk.injEq] at h
      obtain ⟨-, hI, hJ⟩ := h
      exact (congrFun (congrFun hI aq) kq).symm.trans (Eq.trans (wi_nc _ _ haq.2.2.2.2.2.2.2.2.2) (Eq.trans (frX10_readNumber hq4.symm aq kq ⟨haq.1, haq.2.1, haq.2.2.1, haq.2.2.2.2.1, haq.2.2.2.2.2.1, haq.2.2.2.2.2.2.1, haq.2.2.2.2.2.2.2.1, haq.2.2.2.2.2.2.2.2.1⟩) (Eq.trans (frX10_go hq3.symm aq kq ⟨haq.2.2.2.2.1, haq.2.2.2.2.2.1, haq.2.2.2.2.2.2.1, haq.2.2.2.2.2.2.2.1, haq.2.2.2.2.2.2.2.2.1⟩) (Eq.trans (wi_nc _ _ haq.2.2.2.1) rfl))))
    · simp only [if_neg hq5] at h
      simp only [Prod.mk.injEq] at h
      obtain ⟨-, hI, hJ⟩ := h
      exact (congrFun (congrFun hI aq) kq).symm.trans (Eq.trans (frX10_readNumber hq4.symm aq kq ⟨haq.1, haq.2.1, haq.2.2.1, haq.2.2.2.2.1, haq.2.2.2.2.2.1, haq.2.2.2.2.2.2.1, haq.2.2.2.2.2.2.2.1, haq.2.2.2.2.2.2.2.2.1⟩) (Eq.trans (frX10_go hq3.symm aq kq ⟨haq.2.2.2.2.1, haq.2.2.2.2.2.1, haq.2.2.2.2.2.2.1, haq.2.2.2.2.2.2.2.1, haq.2.2.2.2.2.2.2.2.1⟩) (Eq.trans (wi_nc _ _ haq.2.2.2.1) rfl)))
theorem fjX10_readOnce2 {S : Mi × Mj} {r0 : Bool} {I0 : Mi} {J0 : Mj} (h : fX10_readOnce2  S = (r0, I0, J0)) (aq kq : Nat) (haq : ¬ (aq = 57 ∧ kq = 12)) : J0 aq kq = S.2 aq kq := by
  obtain ⟨I, J⟩ := S
  unfold fX10_readOnce2 at h
  try simp only at h
  by_cases hq1 : (gi I 57 24) / 4 % 2 = 1
  · simp only [if_pos hq1] at h
    obtain ⟨⟨r15, I16, J17⟩, hq2⟩ : ∃ q, q = fX10_bad 3 (I, J) := ⟨_, rfl⟩
    rw [← hq2] at h; try simp only at h
    simp only [Prod.mk.injEq] at h
    obtain ⟨-, hI, hJ⟩ := h
    exact (congrFun (congrFun hJ aq) kq).symm.trans (Eq.trans (fjX10_bad hq2.symm aq kq trivial) rfl)
  · simp only [if_neg hq1] at h
    obtain ⟨⟨r2, I3, J4⟩, hq3⟩ : ∃ q, q = fX10_go ((wi I 57 24 ((gi I 57 24) + 4)), J) := ⟨_, rfl⟩
    rw [← hq3] at h; try simp only at h
    obtain ⟨⟨r7, I8, J9⟩, hq4⟩ : ∃ q, q = fX10_readNumber 1 999 (I3, J4) := ⟨_, rfl⟩
    rw [← hq4] at h; try simp only at h
    by_cases hq5 : r7 = true
    · simp only [if_pos hq5] at h
      simp only [Prod.mk.injEq] at h
      obtain ⟨-, hI, hJ⟩ := h
      exact (congrFun (congrFun hJ aq) kq).symm.trans (Eq.trans (fjX10_readNumber hq4.symm aq kq haq) (Eq.trans (fjX10_go hq3.symm aq kq haq) rfl))
    · simp only [if_neg hq5] at h
      simp only [Prod.mk.injEq] at h
      obtain ⟨-, hI, hJ⟩ := h
      exact (congrFun (congrFun hJ aq) kq).symm.trans (Eq.trans (fjX10_readNumber hq4.symm aq kq haq) (Eq.trans (fjX10_go hq3.symm aq kq haq) rfl))
theorem okX10_readOnce2 {I : Mi} {J : Mj} {r0 : Bool} {I0 : Mi} {J0 : Mj} (h : fX10_readOnce2  (I, J) = (r0, I0, J0)) (hl : LX I) : LX I0 := by
  unfold fX10_readOnce2 at h
  try simp only at h
  have hb0 := hl
  unfold LX at hb0
  by_cases hq1 : (gi I 57 24) / 4 % 2 = 1
  · simp only [if_pos hq1] at h
    obtain ⟨⟨r15, I16, J17⟩, hq2⟩ : ∃ q, q = fX10_bad 3 (I, J) := ⟨_, rfl⟩
    rw [← hq2] at h; try simp only at h
    have hl2 : LX I16 := okX10_bad hq2.symm hl; have hbhl2 := hl2; unfold LX at hbhl2
    simp only [Prod.mk.injEq] at h
    obtain ⟨-, hI, hJ⟩ := h
    rw [← hI]
    exact hl2
  · simp only [if_neg hq1] at h
    obtain ⟨⟨r2, I3, J4⟩, hq3⟩ : ∃ q, q = fX10_go ((wi I 57 24 ((gi I 57 24) + 4)), J) := ⟨_, rfl⟩
    rw [← hq3] at h; try simp only at h
    have hl3 : LX I3 := okX10_go hq3.symm (by have hb := hl; unfold LX at hb ⊢; have : gi (wi I 57 24 ((gi I 57 24) + 4)) 57 3 = gi I 57 3 := (gi_wi_nk _ _ _ (by decide)); have : gi (wi I 57 24 ((gi I 57 24) + 4)) 57 5 = gi I 57 5 := (gi_wi_nk _ _ _ (by decide)); have : gi (wi I 57 24 ((gi I 57 24) + 4)) 60 0 = gi I 60 0 := (gi_wi_na _ _ _ _ (by decide)); have : gi (wi I 57 24 ((gi I 57 24) + 4)) 60 1 = gi I 60 1 := (gi_wi_na _ _ _ _ (by decide)); have : gi (wi I 57 24 ((gi I 57 24) + 4)) 59 0 = gi I 59 0 := (gi_wi_na _ _ _ _ (by decide)); have : gi (wi I 57 24 ((gi I 57 24) + 4)) 57 24 = (gi I 57 24) + 4 := (gi_wi_eq (x := (gi I 57 24) + 4) _ _ _ (by have := gi_rng I 57 24; omega)); omega); have hbhl3 := hl3; unfold LX at hbhl3
    obtain ⟨⟨r7, I8, J9⟩, hq4⟩ : ∃ q, q = fX10_readNumber 1 999 (I3, J4) := ⟨_, rfl⟩
    rw [← hq4] at h; try simp only at h
    have hl4 : LX I8 := okX10_readNumber hq4.symm hl3; have hbhl4 := hl4; unfold LX at hbhl4
    by_cases hq5 : r7 = true
    · simp only [if_pos hq5] at h
      simp only [Prod.mk.injEq] at h
      obtain ⟨-, hI, hJ⟩ := h
      rw [← hI]
      exact (by have hb := hl4; unfold LX at hb ⊢; have : gi (wi I8 60 5 (gi I8 57 13)) 57 3 = gi I8 57 3 := (gi_wi_na _ _ _ _ (by decide)); have : gi (wi I8 60 5 (gi I8 57 13)) 57 5 = gi I8 57 5 := (gi_wi_na _ _ _ _ (by decide)); have : gi (wi I8 60 5 (gi I8 57 13)) 60 0 = gi I8 60 0 := (gi_wi_nk _ _ _ (by decide)); have : gi (wi I8 60 5 (gi I8 57 13)) 60 1 = gi I8 60 1 := (gi_wi_nk _ _ _ (by decide)); have : gi (wi I8 60 5 (gi I8 57 13)) 59 0 = gi I8 59 0 := (gi_wi_na _ _ _ _ (by decide)); have : gi (wi I8 60 5 (gi I8 57 13)) 57 24 = gi I8 57 24 := (gi_wi_na _ _ _ _ (by decide)); omega)
    · simp only [if_neg hq5] at h
      simp only [Prod.mk.injEq] at h
      obtain ⟨-, hI, hJ⟩ := h
      rw [← hI]
      exact hl4
set_option maxHeartbeats 4000000 in
set_option maxRecDepth 100000 in
theorem qX10_readOnce2 {G : Gx} {σ : State} (hC : Cz G σ) {sh : Sh} {I : Mi} {J : Mj}  (hS : St sh) (hl : LX I) : Ce G σ 5 yX10_readOnce cX10_readOnce 5 (some .boolean) [.ref (G.2.2 + 57), .int (iv (2)), .int (iv (5)), .int (iv (1)), .int (iv (999))] (sh, I, J) 0 0 (some (.int (iv (b2 ((fX10_readOnce2 (I, J)).1 = true))))) (sh, (fX10_readOnce2 (I, J)).2.1, (fX10_readOnce2 (I, J)).2.2) := by
  refine Ct.of hC (by decide +kernel) (Nat.le_of_ble_eq_true rfl) ?_
  intro p l e R s m args below meth c C
  show Jz G σ p l e R s m args below meth c 5 0 0 (Qx (some (.int (iv (b2 ((fX10_readOnce2 (I, J)).1 = true))))) (sh, (fX10_readOnce2 (I, J)).2.1, (fX10_readOnce2 (I, J)).2.2)) (sh, I, J) 0 0 0 [(0, .ref (G.2.2 + 57)), (1, .int (iv (2))), (2, .int (iv (5))), (3, .int (iv (1))), (4, .int (iv (999)))] []
  have hb0 := hl
  unfold LX at hb0
  refine z_aload_n C dX10_readOnce_0 0 rfl ?_
  refine z_getI C dX10_readOnce_1 fX10_212 rfl (kd_57 hS) ?_
  refine z_iload_n C dX10_readOnce_4 1 rfl ?_
  refine z_cSi (st := []) C dX10_readOnce_5 mX10_215 (qX10_has2 hC (gi I 57 24) (by have := gi_rng I 57 24; omega)) rfl rfl (Nat.le_of_ble_eq_true rfl) (by decide) ?_
  refine z_if_eq_b 17 C dX10_readOnce_8 (by decide) (fun h1 => ?_) (fun h1 => ?_)
  ·
    refine z_aload_n C dX10_readOnce_17 0 rfl ?_
    refine z_dup C dX10_readOnce_18 rfl ?_
    refine z_getI C dX10_readOnce_19 fX10_212 rfl (kd_57 hS) ?_
    refine z_iconst C dX10_readOnce_22 ?_
    refine z_iload_n C dX10_readOnce_23 1 rfl ?_
    refine z_ishl (4) C dX10_readOnce_24 (by decide) ?_
    refine z_ior ((gi I 57 24) + 4) C dX10_readOnce_25 (or_addk 2 (by decide) (by omega) (by assumption)) ?_
    refine z_putI C dX10_readOnce_26 fX10_212 rfl rfl (kd_57 hS) rfl rfl ?_
    refine z_aload_n C dX10_readOnce_29 0 rfl ?_
    refine z_cVvF (st := []) (F := fX10_go ((wi I 57 24 ((gi I 57 24) + 4)), J)) C dX10_readOnce_30 mX10_161 (kd_57 hS) (qX10_go hC  hS (by have hb := hl; unfold LX at hb ⊢; have : gi (wi I 57 24 ((gi I 57 24) + 4)) 57 3 = gi I 57 3 := (gi_wi_nk _ _ _ (by decide)); have : gi (wi I 57 24 ((gi I 57 24) + 4)) 57 5 = gi I 57 5 := (gi_wi_nk _ _ _ (by decide)); have : gi (wi I 57 24 ((gi I 57 24) + 4)) 60 0 = gi I 60 0 := (gi_wi_na _ _ _ _ (by decide)); have : gi (wi I 57 24 ((gi I 57 24) + 4)) 60 1 = gi I 60 1 := (gi_wi_na _ _ _ _ (by decide)); have : gi (wi I 57 24 ((gi I 57 24) + 4)) 59 0 = gi I 59 0 := (gi_wi_na _ _ _ _ (by decide)); have : gi (wi I 57 24 ((gi I 57 24) + 4)) 57 24 = (gi I 57 24) + 4 := (gi_wi_eq (x := (gi I 57 24) + 4) _ _ _ (by have := gi_rng I 57 24; omega)); omega)) rfl rfl (Nat.le_of_ble_eq_true rfl) (by decide) (fun r2 I3 J4 hT5 => ?_)
    have hl6 : LX I3 := okX10_go hT5 (by have hb := hl; unfold LX at hb ⊢; have : gi (wi I 57 24 ((gi I 57 24) + 4)) 57 3 = gi I 57 3 := (gi_wi_nk _ _ _ (by decide)); have : gi (wi I 57 24 ((gi I 57 24) + 4)) 57 5 = gi I 57 5 := (gi_wi_nk _ _ _ (by decide)); have : gi (wi I 57 24 ((gi I 57 24) + 4)) 60 0 = gi I 60 0 := (gi_wi_na _ _ _ _ (by decide)); have : gi (wi I 57 24 ((gi I 57 24) + 4)) 60 1 = gi I 60 1 := (gi_wi_na _ _ _ _ (by decide)); have : gi (wi I 57 24 ((gi I 57 24) + 4)) 59 0 = gi I 59 0 := (gi_wi_na _ _ _ _ (by decide)); have : gi (wi I 57 24 ((gi I 57 24) + 4)) 57 24 = (gi I 57 24) + 4 := (gi_wi_eq (x := (gi I 57 24) + 4) _ _ _ (by have := gi_rng I 57 24; omega)); omega); have hbhl6 := hl6; unfold LX at hbhl6
    refine z_aload_n C dX10_readOnce_33 0 rfl ?_
    refine z_iload_n C dX10_readOnce_34 3 rfl ?_
    refine z_iload C dX10_readOnce_35 4 rfl ?_
    refine z_cVibF (st := []) (F := fX10_readNumber 1 999 (I3, J4)) C dX10_readOnce_37 mX10_205 (kd_57 hS) (qX10_readNumber hC 1 999 hS hl6 (by omega) (by omega)) rfl rfl (Nat.le_of_ble_eq_true rfl) (by decide) (fun r7 I8 J9 hT10 => ?_)
    have hl11 : LX I8 := okX10_readNumber hT10 hl6; have hbhl11 := hl11; unfold LX at hbhl11
    refine z_if_ne_b 45 C dX10_readOnce_40 (by decide) (fun h12 => ?_) (fun h12 => ?_)
    ·
      refine z_aload_n C dX10_readOnce_45 0 rfl ?_
      refine z_getR C dX10_readOnce_46 fX10_16 rfl (kd_57 hS) (r_57_15 hS) ?_
      refine z_iload_n C dX10_readOnce_49 2 rfl ?_
      refine z_aload_n C dX10_readOnce_50 0 rfl ?_
      refine z_getI C dX10_readOnce_51 fX10_158 rfl (kd_57 hS) ?_
      refine z_iast (q := 5) C dX10_readOnce_54 (ka_60 hS) rfl (by decide) ?_
      refine z_iconst C dX10_readOnce_55 ?_
      have hf13 : fX10_readOnce2 (I, J) = (true, (wi I8 60 5 (gi I8 57 13)), J9) := (by simp only [fX10_readOnce2, if_neg h1, hT5, hT10, if_pos h12])
      exact z_zreturnx C dX10_readOnce_56 rfl (by rw [hf13]; rfl) (by rw [hf13])
    ·
      refine z_iconst C dX10_readOnce_43 ?_
      have hf14 : fX10_readOnce2 (I, J) = (false, I8, J9) := (by simp only [fX10_readOnce2, if_neg h1, hT5, hT10, if_neg h12])
      exact z_zreturnx C dX10_readOnce_44 rfl (by rw [hf14]; rfl) (by rw [hf14])
  ·
    refine z_aload_n C dX10_readOnce_11 0 rfl ?_
    refine z_iconst C dX10_readOnce_12 ?_
    refine z_cVibF (st := []) (F := fX10_bad 3 (I, J)) C dX10_readOnce_13 mX10_151 (kd_57 hS) (qX10_bad hC 3 hS (by omega)) rfl rfl (Nat.le_of_ble_eq_true rfl) (by decide) (fun r15 I16 J17 hT18 => ?_)
    have hl19 : LX I16 := okX10_bad hT18 hl; have hbhl19 := hl19; unfold LX at hbhl19
    have hf20 : fX10_readOnce2 (I, J) = (decide (r15 = true), I16, J17) := (by simp only [fX10_readOnce2, if_pos h1, hT18])
    exact z_zreturnx C dX10_readOnce_16 (b2_nar _) (by rw [hf20]; simp [b2]) (by rw [hf20])

noncomputable def fX10_readOnce3 (S : Mi × Mj) : Bool × Mi × Mj :=
  match S with
  | (I, J) =>
    if (gi I 57 24) / 8 % 2 = 1 then
      match fX10_bad 3 (I, J) with
      | (r15, I16, J17) =>
        (decide (r15 = true), I16, J17)
    else
      match fX10_go ((wi I 57 24 ((gi I 57 24) + 8)), J) with
      | (r2, I3, J4) =>
        match fX10_readNumber 1 9 (I3, J4) with
        | (r7, I8, J9) =>
          if r7 = true then
            (true, (wi I8 60 6 (gi I8 57 13)), J9)
          else
            (false, I8, J9)
theorem frX10_readOnce3 {S : Mi × Mj} {r0 : Bool} {I0 : Mi} {J0 : Mj} (h : fX10_readOnce3  S = (r0, I0, J0)) (aq kq : Nat) (haq : ¬ (aq = 57 ∧ kq = 10) ∧ ¬ (aq = 57 ∧ kq = 11) ∧ ¬ (aq = 57 ∧ kq = 13) ∧ ¬ (aq = 57 ∧ kq = 24) ∧ ¬ (aq = 57 ∧ kq = 5) ∧ ¬ (aq = 57 ∧ kq = 6) ∧ ¬ (aq = 57 ∧ kq = 7) ∧ ¬ (aq = 57 ∧ kq = 8) ∧ ¬ (aq = 57 ∧ kq = 9) ∧ ¬ (aq = 60 ∧ kq = 6)) : I0 aq kq = S.1 aq kq := by
  obtain ⟨I, J⟩ := S
  unfold fX10_readOnce3 at h
  try simp only at h
  by_cases hq1 : (gi I 57 24) / 8 % 2 = 1
  · simp only [if_pos hq1] at h
    obtain ⟨⟨r15, I16, J17⟩, hq2⟩ : ∃ q, q = fX10_bad 3 (I, J) := ⟨_, rfl⟩
    rw [← hq2] at h; try simp only at h
    simp only [Prod.mk.injEq] at h
    obtain ⟨-, hI, hJ⟩ := h
    exact (congrFun (congrFun hI aq) kq).symm.trans (Eq.trans (frX10_bad hq2.symm aq kq ⟨haq.1, haq.2.1⟩) rfl)
  · simp only [if_neg hq1] at h
    obtain ⟨⟨r2, I3, J4⟩, hq3⟩ : ∃ q, q = fX10_go ((wi I 57 24 ((gi I 57 24) + 8)), J) := ⟨_, rfl⟩
    rw [← hq3] at h; try simp only at h
    obtain ⟨⟨r7, I8, J9⟩, hq4⟩ : ∃ q, q = fX10_readNumber 1 9 (I3, J4) := ⟨_, rfl⟩
    rw [← hq4] at h; try simp only at h
    by_cases hq5 : r7 = true
    · simp only [if_pos hq5] at h
      simp only [Prod.mk.injEq] at h
      obtain ⟨-, hI, hJ⟩ := h
      exact (congrFun (congrFun hI aq) kq).symm.trans (Eq.trans (wi_nc _ _ haq.2.2.2.2.2.2.2.2.2) (Eq.trans (frX10_readNumber hq4.symm aq kq ⟨haq.1, haq.2.1, haq.2.2.1, haq.2.2.2.2.1, haq.2.2.2.2.2.1, haq.2.2.2.2.2.2.1, haq.2.2.2.2.2.2.2.1, haq.2.2.2.2.2.2.2.2.1⟩) (Eq.trans (frX10_go hq3.symm aq kq ⟨haq.2.2.2.2.1, haq.2.2.2.2.2.1, haq.2.2.2.2.2.2.1, haq.2.2.2.2.2.2.2.1, haq.2.2.2.2.2.2.2.2.1⟩) (Eq.trans (wi_nc _ _ haq.2.2.2.1) rfl))))
    · simp only [if_neg hq5] at h
      simp only [Prod.mk.injEq] at h
      obtain ⟨-, hI, hJ⟩ := h
      exact (congrFun (congrFun hI aq) kq).symm.trans (Eq.trans (frX10_readNumber hq4.symm aq kq ⟨haq.1, haq.2.1, haq.2.2.1, haq.2.2.2.2.1, haq.2.2.2.2.2.1, haq.2.2.2.2.2.2.1, haq.2.2.2.2.2.2.2.1, haq.2.2.2.2.2.2.2.2.1⟩) (Eq.trans (frX10_go hq3.symm aq kq ⟨haq.2.2.2.2.1, haq.2.2.2.2.2.1, haq.2.2.2.2.2.2.1, haq.2.2.2.2.2.2.2.1, haq.2.2.2.2.2.2.2.2.1⟩) (Eq.trans (wi_nc _ _ haq.2.2.2.1) rfl)))
theorem fjX10_readOnce3 {S : Mi × Mj} {r0 : Bool} {I0 : Mi} {J0 : Mj} (h : fX10_readOnce3  S = (r0, I0, J0)) (aq kq : Nat) (haq : ¬ (aq = 57 ∧ kq = 12)) : J0 aq kq = S.2 aq kq := by
  obtain ⟨I, J⟩ := S
  unfold fX10_readOnce3 at h
  try simp only at h
  by_cases hq1 : (gi I 57 24) / 8 % 2 = 1
  · simp only [if_pos hq1] at h
    obtain ⟨⟨r15, I16, J17⟩, hq2⟩ : ∃ q, q = fX10_bad 3 (I, J) := ⟨_, rfl⟩
    rw [← hq2] at h; try simp only at h
    simp only [Prod.mk.injEq] at h
    obtain ⟨-, hI, hJ⟩ := h
    exact (congrFun (congrFun hJ aq) kq).symm.trans (Eq.trans (fjX10_bad hq2.symm aq kq trivial) rfl)
  · simp only [if_neg hq1] at h
    obtain ⟨⟨r2, I3, J4⟩, hq3⟩ : ∃ q, q = fX10_go ((wi I 57 24 ((gi I 57 24) + 8)), J) := ⟨_, rfl⟩
    rw [← hq3] at h; try simp only at h
    obtain ⟨⟨r7, I8, J9⟩, hq4⟩ : ∃ q, q = fX10_readNumber 1 9 (I3, J4) := ⟨_, rfl⟩
    rw [← hq4] at h; try simp only at h
    by_cases hq5 : r7 = true
    · simp only [if_pos hq5] at h
      simp only [Prod.mk.injEq] at h
      obtain ⟨-, hI, hJ⟩ := h
      exact (congrFun (congrFun hJ aq) kq).symm.trans (Eq.trans (fjX10_readNumber hq4.symm aq kq haq) (Eq.trans (fjX10_go hq3.symm aq kq haq) rfl))
    · simp only [if_neg hq5] at h
      simp only [Prod.mk.injEq] at h
      obtain ⟨-, hI, hJ⟩ := h
      exact (congrFun (congrFun hJ aq) kq).symm.trans (Eq.trans (fjX10_readNumber hq4.symm aq kq haq) (Eq.trans (fjX10_go hq3.symm aq kq haq) rfl))
theorem okX10_readOnce3 {I : Mi} {J : Mj} {r0 : Bool} {I0 : Mi} {J0 : Mj} (h : fX10_readOnce3  (I, J) = (r0, I0, J0)) (hl : LX I) : LX I0 := by
  unfold fX10_readOnce3 at h
  try simp only at h
  have hb0 := hl
  unfold LX at hb0
  by_cases hq1 : (gi I 57 24) / 8 % 2 = 1
  · simp only [if_pos hq1] at h
    obtain ⟨⟨r15, I16, J17⟩, hq2⟩ : ∃ q, q = fX10_bad 3 (I, J) := ⟨_, rfl⟩
    rw [← hq2] at h; try simp only at h
    have hl2 : LX I16 := okX10_bad hq2.symm hl; have hbhl2 := hl2; unfold LX at hbhl2
    simp only [Prod.mk.injEq] at h
    obtain ⟨-, hI, hJ⟩ := h
    rw [← hI]
    exact hl2
  · simp only [if_neg hq1] at h
    obtain ⟨⟨r2, I3, J4⟩, hq3⟩ : ∃ q, q = fX10_go ((wi I 57 24 ((gi I 57 24) + 8)), J) := ⟨_, rfl⟩
    rw [← hq3] at h; try simp only at h
    have hl3 : LX I3 := okX10_go hq3.symm (by have hb := hl; unfold LX at hb ⊢; have : gi (wi I 57 24 ((gi I 57 24) + 8)) 57 3 = gi I 57 3 := (gi_wi_nk _ _ _ (by decide)); have : gi (wi I 57 24 ((gi I 57 24) + 8)) 57 5 = gi I 57 5 := (gi_wi_nk _ _ _ (by decide)); have : gi (wi I 57 24 ((gi I 57 24) + 8)) 60 0 = gi I 60 0 := (gi_wi_na _ _ _ _ (by decide)); have : gi (wi I 57 24 ((gi I 57 24) + 8)) 60 1 = gi I 60 1 := (gi_wi_na _ _ _ _ (by decide)); have : gi (wi I 57 24 ((gi I 57 24) + 8)) 59 0 = gi I 59 0 := (gi_wi_na _ _ _ _ (by decide)); have : gi (wi I 57 24 ((gi I 57 24) + 8)) 57 24 = (gi I 57 24) + 8 := (gi_wi_eq (x := (gi I 57 24) + 8) _ _ _ (by have := gi_rng I 57 24; omega)); omega); have hbhl3 := hl3; unfold LX at hbhl3
    obtain ⟨⟨r7, I8, J9⟩, hq4⟩ : ∃ q, q = fX10_readNumber 1 9 (I3, J4) := ⟨_, rfl⟩
    rw [← hq4] at h; try simp only at h
    have hl4 : LX I8 := okX10_readNumber hq4.symm hl3; have hbhl4 := hl4; unfold LX at hbhl4
    by_cases hq5 : r7 = true
    · simp only [if_pos hq5] at h
      simp only [Prod.mk.injEq] at h
      obtain ⟨-, hI, hJ⟩ := h
      rw [← hI]
      exact (by have hb := hl4; unfold LX at hb ⊢; have : gi (wi I8 60 6 (gi I8 57 13)) 57 3 = gi I8 57 3 := (gi_wi_na _ _ _ _ (by decide)); have : gi (wi I8 60 6 (gi I8 57 13)) 57 5 = gi I8 57 5 := (gi_wi_na _ _ _ _ (by decide)); have : gi (wi I8 60 6 (gi I8 57 13)) 60 0 = gi I8 60 0 := (gi_wi_nk _ _ _ (by decide)); have : gi (wi I8 60 6 (gi I8 57 13)) 60 1 = gi I8 60 1 := (gi_wi_nk _ _ _ (by decide)); have : gi (wi I8 60 6 (gi I8 57 13)) 59 0 = gi I8 59 0 := (gi_wi_na _ _ _ _ (by decide)); have : gi (wi I8 60 6 (gi I8 57 13)) 57 24 = gi I8 57 24 := (gi_wi_na _ _ _ _ (by decide)); omega)
    · simp only [if_neg hq5] at h
      simp only [Prod.mk.injEq] at h
      obtain ⟨-, hI, hJ⟩ := h
      rw [← hI]
      exact hl4
set_option maxHeartbeats 4000000 in
set_option maxRecDepth 100000 in
theorem qX10_readOnce3 {G : Gx} {σ : State} (hC : Cz G σ) {sh : Sh} {I : Mi} {J : Mj}  (hS : St sh) (hl : LX I) : Ce G σ 5 yX10_readOnce cX10_readOnce 5 (some .boolean) [.ref (G.2.2 + 57), .int (iv (3)), .int (iv (6)), .int (iv (1)), .int (iv (9))] (sh, I, J) 0 0 (some (.int (iv (b2 ((fX10_readOnce3 (I, J)).1 = true))))) (sh, (fX10_readOnce3 (I, J)).2.1, (fX10_readOnce3 (I, J)).2.2) := by
  refine Ct.of hC (by decide +kernel) (Nat.le_of_ble_eq_true rfl) ?_
  intro p l e R s m args below meth c C
  show Jz G σ p l e R s m args below meth c 5 0 0 (Qx (some (.int (iv (b2 ((fX10_readOnce3 (I, J)).1 = true))))) (sh, (fX10_readOnce3 (I, J)).2.1, (fX10_readOnce3 (I, J)).2.2)) (sh, I, J) 0 0 0 [(0, .ref (G.2.2 + 57)), (1, .int (iv (3))), (2, .int (iv (6))), (3, .int (iv (1))), (4, .int (iv (9)))] []
  have hb0 := hl
  unfold LX at hb0
  refine z_aload_n C dX10_readOnce_0 0 rfl ?_
  refine z_getI C dX10_readOnce_1 fX10_212 rfl (kd_57 hS) ?_
  refine z_iload_n C dX10_readOnce_4 1 rfl ?_
  refine z_cSi (st := []) C dX10_readOnce_5 mX10_215 (qX10_has3 hC (gi I 57 24) (by have := gi_rng I 57 24; omega)) rfl rfl (Nat.le_of_ble_eq_true rfl) (by decide) ?_
  refine z_if_eq_b 17 C dX10_readOnce_8 (by decide) (fun h1 => ?_) (fun h1 => ?_)
  ·
    refine z_aload_n C dX10_readOnce_17 0 rfl ?_
    refine z_dup C dX10_readOnce_18 rfl ?_
    refine z_getI C dX10_readOnce_19 fX10_212 rfl (kd_57 hS) ?_
    refine z_iconst C dX10_readOnce_22 ?_
    refine z_iload_n C dX10_readOnce_23 1 rfl ?_
    refine z_ishl (8) C dX10_readOnce_24 (by decide) ?_
    refine z_ior ((gi I 57 24) + 8) C dX10_readOnce_25 (or_addk 3 (by decide) (by omega) (by assumption)) ?_
    refine z_putI C dX10_readOnce_26 fX10_212 rfl rfl (kd_57 hS) rfl rfl ?_
    refine z_aload_n C dX10_readOnce_29 0 rfl ?_
    refine z_cVvF (st := []) (F := fX10_go ((wi I 57 24 ((gi I 57 24) + 8)), J)) C dX10_readOnce_30 mX10_161 (kd_57 hS) (qX10_go hC  hS (by have hb := hl; unfold LX at hb ⊢; have : gi (wi I 57 24 ((gi I 57 24) + 8)) 57 3 = gi I 57 3 := (gi_wi_nk _ _ _ (by decide)); have : gi (wi I 57 24 ((gi I 57 24) + 8)) 57 5 = gi I 57 5 := (gi_wi_nk _ _ _ (by decide)); have : gi (wi I 57 24 ((gi I 57 24) + 8)) 60 0 = gi I 60 0 := (gi_wi_na _ _ _ _ (by decide)); have : gi (wi I 57 24 ((gi I 57 24) + 8)) 60 1 = gi I 60 1 := (gi_wi_na _ _ _ _ (by decide)); have : gi (wi I 57 24 ((gi I 57 24) + 8)) 59 0 = gi I 59 0 := (gi_wi_na _ _ _ _ (by decide)); have : gi (wi I 57 24 ((gi I 57 24) + 8)) 57 24 = (gi I 57 24) + 8 := (gi_wi_eq (x := (gi I 57 24) + 8) _ _ _ (by have := gi_rng I 57 24; omega)); omega)) rfl rfl (Nat.le_of_ble_eq_true rfl) (by decide) (fun r2 I3 J4 hT5 => ?_)
    have hl6 : LX I3 := okX10_go hT5 (by have hb := hl; unfold LX at hb ⊢; have : gi (wi I 57 24 ((gi I 57 24) + 8)) 57 3 = gi I 57 3 := (gi_wi_nk _ _ _ (by decide)); have : gi (wi I 57 24 ((gi I 57 24) + 8)) 57 5 = gi I 57 5 := (gi_wi_nk _ _ _ (by decide)); have : gi (wi I 57 24 ((gi I 57 24) + 8)) 60 0 = gi I 60 0 := (gi_wi_na _ _ _ _ (by decide)); have : gi (wi I 57 24 ((gi I 57 24) + 8)) 60 1 = gi I 60 1 := (gi_wi_na _ _ _ _ (by decide)); have : gi (wi I 57 24 ((gi I 57 24) + 8)) 59 0 = gi I 59 0 := (gi_wi_na _ _ _ _ (by decide)); have : gi (wi I 57 24 ((gi I 57 24) + 8)) 57 24 = (gi I 57 24) + 8 := (gi_wi_eq (x := (gi I 57 24) + 8) _ _ _ (by have := gi_rng I 57 24; omega)); omega); have hbhl6 := hl6; unfold LX at hbhl6
    refine z_aload_n C dX10_readOnce_33 0 rfl ?_
    refine z_iload_n C dX10_readOnce_34 3 rfl ?_
    refine z_iload C dX10_readOnce_35 4 rfl ?_
    refine z_cVibF (st := []) (F := fX10_readNumber 1 9 (I3, J4)) C dX10_readOnce_37 mX10_205 (kd_57 hS) (qX10_readNumber hC 1 9 hS hl6 (by omega) (by omega)) rfl rfl (Nat.le_of_ble_eq_true rfl) (by decide) (fun r7 I8 J9 hT10 => ?_)
    have hl11 : LX I8 := okX10_readNumber hT10 hl6; have hbhl11 := hl11; unfold LX at hbhl11
    refine z_if_ne_b 45 C dX10_readOnce_40 (by decide) (fun h12 => ?_) (fun h12 => ?_)
    ·
      refine z_aload_n C dX10_readOnce_45 0 rfl ?_
      refine z_getR C dX10_readOnce_46 fX10_16 rfl (kd_57 hS) (r_57_15 hS) ?_
      refine z_iload_n C dX10_readOnce_49 2 rfl ?_
      refine z_aload_n C dX10_readOnce_50 0 rfl ?_
      refine z_getI C dX10_readOnce_51 fX10_158 rfl (kd_57 hS) ?_
      refine z_iast (q := 6) C dX10_readOnce_54 (ka_60 hS) rfl (by decide) ?_
      refine z_iconst C dX10_readOnce_55 ?_
      have hf13 : fX10_readOnce3 (I, J) = (true, (wi I8 60 6 (gi I8 57 13)), J9) := (by simp only [fX10_readOnce3, if_neg h1, hT5, hT10, if_pos h12])
      exact z_zreturnx C dX10_readOnce_56 rfl (by rw [hf13]; rfl) (by rw [hf13])
    ·
      refine z_iconst C dX10_readOnce_43 ?_
      have hf14 : fX10_readOnce3 (I, J) = (false, I8, J9) := (by simp only [fX10_readOnce3, if_neg h1, hT5, hT10, if_neg h12])
      exact z_zreturnx C dX10_readOnce_44 rfl (by rw [hf14]; rfl) (by rw [hf14])
  ·
    refine z_aload_n C dX10_readOnce_11 0 rfl ?_
    refine z_iconst C dX10_readOnce_12 ?_
    refine z_cVibF (st := []) (F := fX10_bad 3 (I, J)) C dX10_readOnce_13 mX10_151 (kd_57 hS) (qX10_bad hC 3 hS (by omega)) rfl rfl (Nat.le_of_ble_eq_true rfl) (by decide) (fun r15 I16 J17 hT18 => ?_)
    have hl19 : LX I16 := okX10_bad hT18 hl; have hbhl19 := hl19; unfold LX at hbhl19
    have hf20 : fX10_readOnce3 (I, J) = (decide (r15 = true), I16, J17) := (by simp only [fX10_readOnce3, if_pos h1, hT18])
    exact z_zreturnx C dX10_readOnce_16 (b2_nar _) (by rw [hf20]; simp [b2]) (by rw [hf20])

noncomputable def fX10_readTakes (S : Mi × Mj) : Bool × Mi × Mj :=
  match S with
  | (I, J) =>
    match fX10_go (I, J) with
    | (r1, I2, J3) =>
      match fX10_readWhoTold (I2, J3) with
      | (r6, I7, J8) =>
        if r6 = true then
          match fX10_go (I7, J8) with
          | (r13, I14, J15) =>
            match fX10_readWhoTold (I14, J15) with
            | (r18, I19, J20) =>
              if r18 = true then
                match (44 + (8 * (gi I7 57 13))) + (gi I19 57 13) with
                | x25 =>
                  if (gi I 60 ((x25).toNat)) ≤ 0 then
                    match fX10_go (I19, J20) with
                    | (r27, I28, J29) =>
                      match fX10_readNumber 0 200 (I28, J29) with
                      | (r32, I33, J34) =>
                        if r32 = true then
                          (true, (wi (wi I33 60 ((x25).toNat) ((gi I33 57 13) + 1)) 60 2 ((gi I 60 2) + 1)), J34)
                        else
                          (false, I33, J34)
                  else
                    match fX10_bad 3 (I19, J20) with
                    | (r40, I41, J42) =>
                      (decide (r40 = true), I41, J42)
              else
                (false, I19, J20)
        else
          (false, I7, J8)
theorem frX10_readTakes {S : Mi × Mj} {r0 : Bool} {I0 : Mi} {J0 : Mj} (h : fX10_readTakes  S = (r0, I0, J0)) (aq kq : Nat) (haq : aq ≠ 60 ∧ ¬ (aq = 57 ∧ kq = 10) ∧ ¬ (aq = 57 ∧ kq = 11) ∧ ¬ (aq = 57 ∧ kq = 13) ∧ ¬ (aq = 57 ∧ kq = 5) ∧ ¬ (aq = 57 ∧ kq = 6) ∧ ¬ (aq = 57 ∧ kq = 7) ∧ ¬ (aq = 57 ∧ kq = 8) ∧ ¬ (aq = 57 ∧ kq = 9)) : I0 aq kq = S.1 aq kq := by
  obtain ⟨I, J⟩ := S
  unfold fX10_readTakes at h
  try simp only at h
  obtain ⟨⟨r1, I2, J3⟩, hq1⟩ : ∃ q, q = fX10_go (I, J) := ⟨_, rfl⟩
  rw [← hq1] at h; try simp only at h
  obtain ⟨⟨r6, I7, J8⟩, hq2⟩ : ∃ q, q = fX10_readWhoTold (I2, J3) := ⟨_, rfl⟩
  rw [← hq2] at h; try simp only at h
  by_cases hq3 : r6 = true
  · simp only [if_pos hq3] at h
    obtain ⟨⟨r13, I14, J15⟩, hq4⟩ : ∃ q, q = fX10_go (I7, J8) := ⟨_, rfl⟩
    rw [← hq4] at h; try simp only at h
    obtain ⟨⟨r18, I19, J20⟩, hq5⟩ : ∃ q, q = fX10_readWhoTold (I14, J15) := ⟨_, rfl⟩
    rw [← hq5] at h; try simp only at h
    by_cases hq6 : r18 = true
    · simp only [if_pos hq6] at h
      obtain ⟨x25, hq7⟩ : ∃ q, q = (44 + (8 * (gi I7 57 13))) + (gi I19 57 13) := ⟨_, rfl⟩
      try rw [← hq7] at h
      try simp only at h
      by_cases hq8 : (gi I 60 ((x25).toNat)) ≤ 0
      · simp only [if_pos hq8] at h
        obtain ⟨⟨r27, I28, J29⟩, hq9⟩ : ∃ q, q = fX10_go (I19, J20) := ⟨_, rfl⟩
        rw [← hq9] at h; try simp only at h
        obtain ⟨⟨r32, I33, J34⟩, hq10⟩ : ∃ q, q = fX10_readNumber 0 200 (I28, J29) := ⟨_, rfl⟩
        rw [← hq10] at h; try simp only at h
        by_cases hq11 : r32 = true
        · simp only [if_pos hq11] at h
          simp only [Prod.mk.injEq] at h
          obtain ⟨-, hI, hJ⟩ := h
          exact (congrFun (congrFun hI aq) kq).symm.trans (Eq.trans (wi_nc _ _ (fun q => haq.1 q.1)) (Eq.trans (wi_nc _ _ (fun q => haq.1 q.1)) (Eq.trans (frX10_readNumber hq10.symm aq kq ⟨haq.2.1, haq.2.2.1, haq.2.2.2.1, haq.2.2.2.2.1, haq.2.2.2.2.2.1, haq.2.2.2.2.2.2.1, haq.2.2.2.2.2.2.2.1, haq.2.2.2.2.2.2.2.2⟩) (Eq.trans (frX10_go hq9.symm aq kq ⟨haq.2.2.2.2.1, haq.2.2.2.2.2.1, haq.2.2.2.2.2.2.1, haq.2.2.2.2.2.2.2.1, haq.2.2.2.2.2.2.2.2⟩) (Eq.trans (frX10_readWhoTold hq5.symm aq kq ⟨haq.2.1, haq.2.2.1, haq.2.2.2.1⟩) (Eq.trans (frX10_go hq4.symm aq kq ⟨haq.2.2.2.2.1, haq.2.2.2.2.2.1, haq.2.2.2.2.2.2.1, haq.2.2.2.2.2.2.2.1, haq.2.2.2.2.2.2.2.2⟩) (Eq.trans (frX10_readWhoTold hq2.symm aq kq ⟨haq.2.1, haq.2.2.1, haq.2.2.2.1⟩) (Eq.trans (frX10_go hq1.symm aq kq ⟨haq.2.2.2.2.1, haq.2.2.2.2.2.1, haq.2.2.2.2.2.2.1, haq.2.2.2.2.2.2.2.1, haq.2.2.2.2.2.2.2.2⟩) rfl))))))))
        · simp only [if_neg hq11] at h
          simp only [Prod.mk.injEq] at h
          obtain ⟨-, hI, hJ⟩ := h
          exact (congrFun (congrFun hI aq) kq).symm.trans (Eq.trans (frX10_readNumber hq10.symm aq kq ⟨haq.2.1, haq.2.2.1, haq.2.2.2.1, haq.2.2.2.2.1, haq.2.2.2.2.2.1, haq.2.2.2.2.2.2.1, haq.2.2.2.2.2.2.2.1, haq.2.2.2.2.2.2.2.2⟩) (Eq.trans (frX10_go hq9.symm aq kq ⟨haq.2.2.2.2.1, haq.2.2.2.2.2.1, haq.2.2.2.2.2.2.1, haq.2.2.2.2.2.2.2.1, haq.2.2.2.2.2.2.2.2⟩) (Eq.trans (frX10_readWhoTold hq5.symm aq kq ⟨haq.2.1, haq.2.2.1, haq.2.2.2.1⟩) (Eq.trans (frX10_go hq4.symm aq kq ⟨haq.2.2.2.2.1, haq.2.2.2.2.2.1, haq.2.2.2.2.2.2.1, haq.2.2.2.2.2.2.2.1, haq.2.2.2.2.2.2.2.2⟩) (Eq.trans (frX10_readWhoTold hq2.symm aq kq ⟨haq.2.1, haq.2.2.1, haq.2.2.2.1⟩) (Eq.trans (frX10_go hq1.symm aq kq ⟨haq.2.2.2.2.1, haq.2.2.2.2.2.1, haq.2.2.2.2.2.2.1, haq.2.2.2.2.2.2.2.1, haq.2.2.2.2.2.2.2.2⟩) rfl))))))
      · simp only [if_neg hq8] at h
        obtain ⟨⟨r40, I41, J42⟩, hq12⟩ : ∃ q, q = fX10_bad 3 (I19, J20) := ⟨_, rfl⟩
        rw [← hq12] at h; try simp only at h
        simp only [Prod.mk.injEq] at h
        obtain ⟨-, hI, hJ⟩ := h
        exact (congrFun (congrFun hI aq) kq).symm.trans (Eq.trans (frX10_bad hq12.symm aq kq ⟨haq.2.1, haq.2.2.1⟩) (Eq.trans (frX10_readWhoTold hq5.symm aq kq ⟨haq.2.1, haq.2.2.1, haq.2.2.2.1⟩) (Eq.trans (frX10_go hq4.symm aq kq ⟨haq.2.2.2.2.1, haq.2.2.2.2.2.1, haq.2.2.2.2.2.2.1, haq.2.2.2.2.2.2.2.1, haq.2.2.2.2.2.2.2.2⟩) (Eq.trans (frX10_readWhoTold hq2.symm aq kq ⟨haq.2.1, haq.2.2.1, haq.2.2.2.1⟩) (Eq.trans (frX10_go hq1.symm aq kq ⟨haq.2.2.2.2.1, haq.2.2.2.2.2.1, haq.2.2.2.2.2.2.1, haq.2.2.2.2.2.2.2.1, haq.2.2.2.2.2.2.2.2⟩) rfl)))))
    · simp only [if_neg hq6] at h
      simp only [Prod.mk.injEq] at h
      obtain ⟨-, hI, hJ⟩ := h
      exact (congrFun (congrFun hI aq) kq).symm.trans (Eq.trans (frX10_readWhoTold hq5.symm aq kq ⟨haq.2.1, haq.2.2.1, haq.2.2.2.1⟩) (Eq.trans (frX10_go hq4.symm aq kq ⟨haq.2.2.2.2.1, haq.2.2.2.2.2.1, haq.2.2.2.2.2.2.1, haq.2.2.2.2.2.2.2.1, haq.2.2.2.2.2.2.2.2⟩) (Eq.trans (frX10_readWhoTold hq2.symm aq kq ⟨haq.2.1, haq.2.2.1, haq.2.2.2.1⟩) (Eq.trans (frX10_go hq1.symm aq kq ⟨haq.2.2.2.2.1, haq.2.2.2.2.2.1, haq.2.2.2.2.2.2.1, haq.2.2.2.2.2.2.2.1, haq.2.2.2.2.2.2.2.2⟩) rfl))))
  · simp only [if_neg hq3] at h
    simp only [Prod.mk.injEq] at h
    obtain ⟨-, hI, hJ⟩ := h
    exact (congrFun (congrFun hI aq) kq).symm.trans (Eq.trans (frX10_readWhoTold hq2.symm aq kq ⟨haq.2.1, haq.2.2.1, haq.2.2.2.1⟩) (Eq.trans (frX10_go hq1.symm aq kq ⟨haq.2.2.2.2.1, haq.2.2.2.2.2.1, haq.2.2.2.2.2.2.1, haq.2.2.2.2.2.2.2.1, haq.2.2.2.2.2.2.2.2⟩) rfl))
theorem fjX10_readTakes {S : Mi × Mj} {r0 : Bool} {I0 : Mi} {J0 : Mj} (h : fX10_readTakes  S = (r0, I0, J0)) (aq kq : Nat) (haq : ¬ (aq = 57 ∧ kq = 12)) : J0 aq kq = S.2 aq kq := by
  obtain ⟨I, J⟩ := S
  unfold fX10_readTakes at h
  try simp only at h
  obtain ⟨⟨r1, I2, J3⟩, hq1⟩ : ∃ q, q = fX10_go (I, J) := ⟨_, rfl⟩
  rw [← hq1] at h; try simp only at h
  obtain ⟨⟨r6, I7, J8⟩, hq2⟩ : ∃ q, q = fX10_readWhoTold (I2, J3) := ⟨_, rfl⟩
  rw [← hq2] at h; try simp only at h
  by_cases hq3 : r6 = true
  · simp only [if_pos hq3] at h
    obtain ⟨⟨r13, I14, J15⟩, hq4⟩ : ∃ q, q = fX10_go (I7, J8) := ⟨_, rfl⟩
    rw [← hq4] at h; try simp only at h
    obtain ⟨⟨r18, I19, J20⟩, hq5⟩ : ∃ q, q = fX10_readWhoTold (I14, J15) := ⟨_, rfl⟩
    rw [← hq5] at h; try simp only at h
    by_cases hq6 : r18 = true
    · simp only [if_pos hq6] at h
      obtain ⟨x25, hq7⟩ : ∃ q, q = (44 + (8 * (gi I7 57 13))) + (gi I19 57 13) := ⟨_, rfl⟩
      try rw [← hq7] at h
      try simp only at h
      by_cases hq8 : (gi I 60 ((x25).toNat)) ≤ 0
      · simp only [if_pos hq8] at h
        obtain ⟨⟨r27, I28, J29⟩, hq9⟩ : ∃ q, q = fX10_go (I19, J20) := ⟨_, rfl⟩
        rw [← hq9] at h; try simp only at h
        obtain ⟨⟨r32, I33, J34⟩, hq10⟩ : ∃ q, q = fX10_readNumber 0 200 (I28, J29) := ⟨_, rfl⟩
        rw [← hq10] at h; try simp only at h
        by_cases hq11 : r32 = true
        · simp only [if_pos hq11] at h
          simp only [Prod.mk.injEq] at h
          obtain ⟨-, hI, hJ⟩ := h
          exact (congrFun (congrFun hJ aq) kq).symm.trans (Eq.trans (fjX10_readNumber hq10.symm aq kq haq) (Eq.trans (fjX10_go hq9.symm aq kq haq) (Eq.trans (fjX10_readWhoTold hq5.symm aq kq trivial) (Eq.trans (fjX10_go hq4.symm aq kq haq) (Eq.trans (fjX10_readWhoTold hq2.symm aq kq trivial) (Eq.trans (fjX10_go hq1.symm aq kq haq) rfl))))))
        · simp only [if_neg hq11] at h
          simp only [Prod.mk.injEq] at h
          obtain ⟨-, hI, hJ⟩ := h
          exact (congrFun (congrFun hJ aq) kq).symm.trans (Eq.trans (fjX10_readNumber hq10.symm aq kq haq) (Eq.trans (fjX10_go hq9.symm aq kq haq) (Eq.trans (fjX10_readWhoTold hq5.symm aq kq trivial) (Eq.trans (fjX10_go hq4.symm aq kq haq) (Eq.trans (fjX10_readWhoTold hq2.symm aq kq trivial) (Eq.trans (fjX10_go hq1.symm aq kq haq) rfl))))))
      · simp only [if_neg hq8] at h
        obtain ⟨⟨r40, I41, J42⟩, hq12⟩ : ∃ q, q = fX10_bad 3 (I19, J20) := ⟨_, rfl⟩
        rw [← hq12] at h; try simp only at h
        simp only [Prod.mk.injEq] at h
        obtain ⟨-, hI, hJ⟩ := h
        exact (congrFun (congrFun hJ aq) kq).symm.trans (Eq.trans (fjX10_bad hq12.symm aq kq trivial) (Eq.trans (fjX10_readWhoTold hq5.symm aq kq trivial) (Eq.trans (fjX10_go hq4.symm aq kq haq) (Eq.trans (fjX10_readWhoTold hq2.symm aq kq trivial) (Eq.trans (fjX10_go hq1.symm aq kq haq) rfl)))))
    · simp only [if_neg hq6] at h
      simp only [Prod.mk.injEq] at h
      obtain ⟨-, hI, hJ⟩ := h
      exact (congrFun (congrFun hJ aq) kq).symm.trans (Eq.trans (fjX10_readWhoTold hq5.symm aq kq trivial) (Eq.trans (fjX10_go hq4.symm aq kq haq) (Eq.trans (fjX10_readWhoTold hq2.symm aq kq trivial) (Eq.trans (fjX10_go hq1.symm aq kq haq) rfl))))
  · simp only [if_neg hq3] at h
    simp only [Prod.mk.injEq] at h
    obtain ⟨-, hI, hJ⟩ := h
    exact (congrFun (congrFun hJ aq) kq).symm.trans (Eq.trans (fjX10_readWhoTold hq2.symm aq kq trivial) (Eq.trans (fjX10_go hq1.symm aq kq haq) rfl))
theorem okX10_readTakes {I : Mi} {J : Mj} {r0 : Bool} {I0 : Mi} {J0 : Mj} (h : fX10_readTakes  (I, J) = (r0, I0, J0)) (hl : LX I) : LX I0 := by
  unfold fX10_readTakes at h
  try simp only at h
  have hb0 := hl
  unfold LX at hb0
  obtain ⟨⟨r1, I2, J3⟩, hq1⟩ : ∃ q, q = fX10_go (I, J) := ⟨_, rfl⟩
  rw [← hq1] at h; try simp only at h
  have hl1 : LX I2 := okX10_go hq1.symm hl; have hbhl1 := hl1; unfold LX at hbhl1
  obtain ⟨⟨r6, I7, J8⟩, hq2⟩ : ∃ q, q = fX10_readWhoTold (I2, J3) := ⟨_, rfl⟩
  rw [← hq2] at h; try simp only at h
  have hl2 : LX I7 := okX10_readWhoTold hq2.symm hl1; have hbhl2 := hl2; unfold LX at hbhl2
  by_cases hq3 : r6 = true
  · simp only [if_pos hq3] at h
    have hthq3 := rwt_told hq2.symm hq3
    obtain ⟨⟨r13, I14, J15⟩, hq4⟩ : ∃ q, q = fX10_go (I7, J8) := ⟨_, rfl⟩
    rw [← hq4] at h; try simp only at h
    have hl4 : LX I14 := okX10_go hq4.symm hl2; have hbhl4 := hl4; unfold LX at hbhl4
    obtain ⟨⟨r18, I19, J20⟩, hq5⟩ : ∃ q, q = fX10_readWhoTold (I14, J15) := ⟨_, rfl⟩
    rw [← hq5] at h; try simp only at h
    have hl5 : LX I19 := okX10_readWhoTold hq5.symm hl4; have hbhl5 := hl5; unfold LX at hbhl5
    by_cases hq6 : r18 = true
    · simp only [if_pos hq6] at h
      have hthq6 := rwt_told hq5.symm hq6
      obtain ⟨x25, hq7⟩ : ∃ q, q = (44 + (8 * (gi I7 57 13))) + (gi I19 57 13) := ⟨_, rfl⟩
      try rw [← hq7] at h
      try simp only at h
      by_cases hq8 : (gi I 60 ((x25).toNat)) ≤ 0
      · simp only [if_pos hq8] at h
        obtain ⟨⟨r27, I28, J29⟩, hq9⟩ : ∃ q, q = fX10_go (I19, J20) := ⟨_, rfl⟩
        rw [← hq9] at h; try simp only at h
        have hl9 : LX I28 := okX10_go hq9.symm hl5; have hbhl9 := hl9; unfold LX at hbhl9
        obtain ⟨⟨r32, I33, J34⟩, hq10⟩ : ∃ q, q = fX10_readNumber 0 200 (I28, J29) := ⟨_, rfl⟩
        rw [← hq10] at h; try simp only at h
        have hl10 : LX I33 := okX10_readNumber hq10.symm hl9; have hbhl10 := hl10; unfold LX at hbhl10
        by_cases hq11 : r32 = true
        · simp only [if_pos hq11] at h
          simp only [Prod.mk.injEq] at h
          obtain ⟨-, hI, hJ⟩ := h
          rw [← hI]
          exact (by have hb := hl10; unfold LX at hb ⊢; have : gi (wi (wi I33 60 ((x25).toNat) ((gi I33 57 13) + 1)) 60 2 ((gi I 60 2) + 1)) 57 3 = gi I33 57 3 := (Eq.trans (gi_wi_na _ _ _ _ (by decide)) (gi_wi_na _ _ _ _ (by decide))); have : gi (wi (wi I33 60 ((x25).toNat) ((gi I33 57 13) + 1)) 60 2 ((gi I 60 2) + 1)) 57 5 = gi I33 57 5 := (Eq.trans (gi_wi_na _ _ _ _ (by decide)) (gi_wi_na _ _ _ _ (by decide))); have : gi (wi (wi I33 60 ((x25).toNat) ((gi I33 57 13) + 1)) 60 2 ((gi I 60 2) + 1)) 60 0 = gi I33 60 0 := (Eq.trans (gi_wi_nk _ _ _ (by decide)) (gi_wi_nk _ _ _ (by omega))); have : gi (wi (wi I33 60 ((x25).toNat) ((gi I33 57 13) + 1)) 60 2 ((gi I 60 2) + 1)) 60 1 = gi I33 60 1 := (Eq.trans (gi_wi_nk _ _ _ (by decide)) (gi_wi_nk _ _ _ (by omega))); have : gi (wi (wi I33 60 ((x25).toNat) ((gi I33 57 13) + 1)) 60 2 ((gi I 60 2) + 1)) 59 0 = gi I33 59 0 := (Eq.trans (gi_wi_na _ _ _ _ (by decide)) (gi_wi_na _ _ _ _ (by decide))); have : gi (wi (wi I33 60 ((x25).toNat) ((gi I33 57 13) + 1)) 60 2 ((gi I 60 2) + 1)) 57 24 = gi I33 57 24 := (Eq.trans (gi_wi_na _ _ _ _ (by decide)) (gi_wi_na _ _ _ _ (by decide))); omega)
        · simp only [if_neg hq11] at h
          simp only [Prod.mk.injEq] at h
          obtain ⟨-, hI, hJ⟩ := h
          rw [← hI]
          exact hl10
      · simp only [if_neg hq8] at h
        obtain ⟨⟨r40, I41, J42⟩, hq12⟩ : ∃ q, q = fX10_bad 3 (I19, J20) := ⟨_, rfl⟩
        rw [← hq12] at h; try simp only at h
        have hl12 : LX I41 := okX10_bad hq12.symm hl5; have hbhl12 := hl12; unfold LX at hbhl12
        simp only [Prod.mk.injEq] at h
        obtain ⟨-, hI, hJ⟩ := h
        rw [← hI]
        exact hl12
    · simp only [if_neg hq6] at h
      simp only [Prod.mk.injEq] at h
      obtain ⟨-, hI, hJ⟩ := h
      rw [← hI]
      exact hl5
  · simp only [if_neg hq3] at h
    simp only [Prod.mk.injEq] at h
    obtain ⟨-, hI, hJ⟩ := h
    rw [← hI]
    exact hl2
set_option maxHeartbeats 4000000 in
set_option maxRecDepth 100000 in
theorem qX10_readTakes {G : Gx} {σ : State} (hC : Cz G σ) {sh : Sh} {I : Mi} {J : Mj}  (hS : St sh) (hl : LX I) : Ce G σ 5 yX10_readTakes cX10_readTakes 3 (some .boolean) [.ref (G.2.2 + 57)] (sh, I, J) 0 0 (some (.int (iv (b2 ((fX10_readTakes (I, J)).1 = true))))) (sh, (fX10_readTakes (I, J)).2.1, (fX10_readTakes (I, J)).2.2) := by
  refine Ct.of hC (by decide +kernel) (Nat.le_of_ble_eq_true rfl) ?_
  intro p l e R s m args below meth c C
  show Jz G σ p l e R s m args below meth c 3 0 0 (Qx (some (.int (iv (b2 ((fX10_readTakes (I, J)).1 = true))))) (sh, (fX10_readTakes (I, J)).2.1, (fX10_readTakes (I, J)).2.2)) (sh, I, J) 0 0 0 [(0, .ref (G.2.2 + 57))] []
  have hb0 := hl
  unfold LX at hb0
  refine z_aload_n C dX10_readTakes_0 0 rfl ?_
  refine z_cVvF (st := []) (F := fX10_go (I, J)) C dX10_readTakes_1 mX10_161 (kd_57 hS) (qX10_go hC  hS hl) rfl rfl (Nat.le_of_ble_eq_true rfl) (by decide) (fun r1 I2 J3 hT4 => ?_)
  have hl5 : LX I2 := okX10_go hT4 hl; have hbhl5 := hl5; unfold LX at hbhl5
  refine z_aload_n C dX10_readTakes_4 0 rfl ?_
  refine z_cVibF (st := []) (F := fX10_readWhoTold (I2, J3)) C dX10_readTakes_5 mX10_209 (kd_57 hS) (qX10_readWhoTold hC  hS hl5) rfl rfl (Nat.le_of_ble_eq_true rfl) (by decide) (fun r6 I7 J8 hT9 => ?_)
  have hl10 : LX I7 := okX10_readWhoTold hT9 hl5; have hbhl10 := hl10; unfold LX at hbhl10
  refine z_if_ne_b 13 C dX10_readTakes_8 (by decide) (fun h11 => ?_) (fun h11 => ?_)
  ·
    have ht12 := rwt_told hT9 h11
    refine z_aload_n C dX10_readTakes_13 0 rfl ?_
    refine z_getI C dX10_readTakes_14 fX10_158 rfl (kd_57 hS) ?_
    refine z_istore_n (lv' := [(0, .ref (G.2.2 + 57)), (1, .int (iv (gi I7 57 13)))]) C dX10_readTakes_17 rfl (by decide) [1, 0] rfl ?_
    refine z_aload_n C dX10_readTakes_18 0 rfl ?_
    refine z_cVvF (st := []) (F := fX10_go (I7, J8)) C dX10_readTakes_19 mX10_161 (kd_57 hS) (qX10_go hC  hS hl10) rfl rfl (Nat.le_of_ble_eq_true rfl) (by decide) (fun r13 I14 J15 hT16 => ?_)
    have hl17 : LX I14 := okX10_go hT16 hl10; have hbhl17 := hl17; unfold LX at hbhl17
    refine z_aload_n C dX10_readTakes_22 0 rfl ?_
    refine z_cVibF (st := []) (F := fX10_readWhoTold (I14, J15)) C dX10_readTakes_23 mX10_209 (kd_57 hS) (qX10_readWhoTold hC  hS hl17) rfl rfl (Nat.le_of_ble_eq_true rfl) (by decide) (fun r18 I19 J20 hT21 => ?_)
    have hl22 : LX I19 := okX10_readWhoTold hT21 hl17; have hbhl22 := hl22; unfold LX at hbhl22
    refine z_if_ne_b 31 C dX10_readTakes_26 (by decide) (fun h23 => ?_) (fun h23 => ?_)
    ·
      have ht24 := rwt_told hT21 h23
      refine z_bipush C dX10_readTakes_31 (by decide) ?_
      refine z_bipush C dX10_readTakes_33 (by decide) ?_
      refine z_iload_n C dX10_readTakes_35 1 rfl ?_
      refine z_imul C dX10_readTakes_36 ?_
      refine z_iadd C dX10_readTakes_37 ?_
      refine z_aload_n C dX10_readTakes_38 0 rfl ?_
      refine z_getI C dX10_readTakes_39 fX10_158 rfl (kd_57 hS) ?_
      refine z_iadd C dX10_readTakes_42 ?_
      refine z_nami (fun x25 hx25 => ?_)
      refine z_istore_n (lv' := [(0, .ref (G.2.2 + 57)), (1, .int (iv (gi I7 57 13))), (2, .int (iv (x25)))]) C dX10_readTakes_43 rfl (by decide) [1, 2, 0] rfl ?_
      refine z_aload_n C dX10_readTakes_44 0 rfl ?_
      refine z_getR C dX10_readTakes_45 fX10_16 rfl (kd_57 hS) (r_57_15 hS) ?_
      refine z_iload_n C dX10_readTakes_48 2 rfl ?_
      refine z_iald (q := (x25).toNat) C dX10_readTakes_49 (ka_60 hS) (by omega) (by omega) ?_
      refine z_eqi (gi I 60 ((x25).toNat)) (Eq.trans (gi_fk (frX10_readWhoTold hT21 60 ((x25).toNat) (by simp))) (Eq.trans (gi_fk (frX10_go hT16 60 ((x25).toNat) (by simp))) (Eq.trans (gi_fk (frX10_readWhoTold hT9 60 ((x25).toNat) (by simp))) (gi_fk (frX10_go hT4 60 ((x25).toNat) (by simp)))))) ?_
      refine z_if_le 59 C dX10_readTakes_50 (by decide) (gi_rng _ _ _) (fun h26 => ?_) (fun h26 => ?_)
      ·
        refine z_aload_n C dX10_readTakes_59 0 rfl ?_
        refine z_cVvF (st := []) (F := fX10_go (I19, J20)) C dX10_readTakes_60 mX10_161 (kd_57 hS) (qX10_go hC  hS hl22) rfl rfl (Nat.le_of_ble_eq_true rfl) (by decide) (fun r27 I28 J29 hT30 => ?_)
        have hl31 : LX I28 := okX10_go hT30 hl22; have hbhl31 := hl31; unfold LX at hbhl31
        refine z_aload_n C dX10_readTakes_63 0 rfl ?_
        refine z_iconst C dX10_readTakes_64 ?_
        refine z_sipush C dX10_readTakes_65 (by decide) ?_
        refine z_cVibF (st := []) (F := fX10_readNumber 0 200 (I28, J29)) C dX10_readTakes_68 mX10_205 (kd_57 hS) (qX10_readNumber hC 0 200 hS hl31 (by omega) (by omega)) rfl rfl (Nat.le_of_ble_eq_true rfl) (by decide) (fun r32 I33 J34 hT35 => ?_)
        have hl36 : LX I33 := okX10_readNumber hT35 hl31; have hbhl36 := hl36; unfold LX at hbhl36
        refine z_if_ne_b 76 C dX10_readTakes_71 (by decide) (fun h37 => ?_) (fun h37 => ?_)
        ·
          refine z_aload_n C dX10_readTakes_76 0 rfl ?_
          refine z_getR C dX10_readTakes_77 fX10_16 rfl (kd_57 hS) (r_57_15 hS) ?_
          refine z_iload_n C dX10_readTakes_80 2 rfl ?_
          refine z_aload_n C dX10_readTakes_81 0 rfl ?_
          refine z_getI C dX10_readTakes_82 fX10_158 rfl (kd_57 hS) ?_
          refine z_iconst C dX10_readTakes_85 ?_
          refine z_iadd C dX10_readTakes_86 ?_
          refine z_iast (q := (x25).toNat) C dX10_readTakes_87 (ka_60 hS) (by omega) (by omega) ?_
          refine z_aload_n C dX10_readTakes_88 0 rfl ?_
          refine z_getR C dX10_readTakes_89 fX10_16 rfl (kd_57 hS) (r_57_15 hS) ?_
          refine z_iconst C dX10_readTakes_92 ?_
          refine z_dup2 C dX10_readTakes_93 rfl rfl ?_
          refine z_iald (q := 2) C dX10_readTakes_94 (ka_60 hS) rfl (by decide) ?_
          refine z_eqi (gi I 60 2) (Eq.trans (gi_wi_nk _ _ _ (by omega)) (Eq.trans (gi_fk (frX10_readNumber hT35 60 2 (by decide))) (Eq.trans (gi_fk (frX10_go hT30 60 2 (by decide))) (Eq.trans (gi_fk (frX10_readWhoTold hT21 60 2 (by decide))) (Eq.trans (gi_fk (frX10_go hT16 60 2 (by decide))) (Eq.trans (gi_fk (frX10_readWhoTold hT9 60 2 (by decide))) (gi_fk (frX10_go hT4 60 2 (by decide))))))))) ?_
          refine z_iconst C dX10_readTakes_95 ?_
          refine z_iadd C dX10_readTakes_96 ?_
          refine z_iast (q := 2) C dX10_readTakes_97 (ka_60 hS) rfl (by decide) ?_
          refine z_iconst C dX10_readTakes_98 ?_
          have hf38 : fX10_readTakes (I, J) = (true, (wi (wi I33 60 ((x25).toNat) ((gi I33 57 13) + 1)) 60 2 ((gi I 60 2) + 1)), J34) := (by simp only [fX10_readTakes, hT4, hT9, if_pos h11, hT16, hT21, if_pos h23, ← hx25, if_pos h26, hT30, hT35, if_pos h37])
          exact z_zreturnx C dX10_readTakes_99 rfl (by rw [hf38]; rfl) (by rw [hf38])
        ·
          refine z_iconst C dX10_readTakes_74 ?_
          have hf39 : fX10_readTakes (I, J) = (false, I33, J34) := (by simp only [fX10_readTakes, hT4, hT9, if_pos h11, hT16, hT21, if_pos h23, ← hx25, if_pos h26, hT30, hT35, if_neg h37])
          exact z_zreturnx C dX10_readTakes_75 rfl (by rw [hf39]; rfl) (by rw [hf39])
      ·
        refine z_aload_n C dX10_readTakes_53 0 rfl ?_
        refine z_iconst C dX10_readTakes_54 ?_
        refine z_cVibF (st := []) (F := fX10_bad 3 (I19, J20)) C dX10_readTakes_55 mX10_151 (kd_57 hS) (qX10_bad hC 3 hS (by omega)) rfl rfl (Nat.le_of_ble_eq_true rfl) (by decide) (fun r40 I41 J42 hT43 => ?_)
        have hl44 : LX I41 := okX10_bad hT43 hl22; have hbhl44 := hl44; unfold LX at hbhl44
        have hf45 : fX10_readTakes (I, J) = (decide (r40 = true), I41, J42) := (by simp only [fX10_readTakes, hT4, hT9, if_pos h11, hT16, hT21, if_pos h23, ← hx25, if_neg h26, hT43])
        exact z_zreturnx C dX10_readTakes_58 (b2_nar _) (by rw [hf45]; simp [b2]) (by rw [hf45])
    ·
      refine z_iconst C dX10_readTakes_29 ?_
      have hf46 : fX10_readTakes (I, J) = (false, I19, J20) := (by simp only [fX10_readTakes, hT4, hT9, if_pos h11, hT16, hT21, if_neg h23])
      exact z_zreturnx C dX10_readTakes_30 rfl (by rw [hf46]; rfl) (by rw [hf46])
  ·
    refine z_iconst C dX10_readTakes_11 ?_
    have hf47 : fX10_readTakes (I, J) = (false, I7, J8) := (by simp only [fX10_readTakes, hT4, hT9, if_neg h11])
    exact z_zreturnx C dX10_readTakes_12 rfl (by rw [hf47]; rfl) (by rw [hf47])

noncomputable def fX10_readLine (S : Mi × Mj) : Bool × Mi × Mj :=
  match S with
  | (I, J) =>
    if gi I 57 7 = 2 ∧ gj J 57 12 = wt 0 then
      match fX10_readWho (I, J) with
      | (r113, I114, J115) =>
        if r113 = true then
          match fX10_readEnd (I114, J115) with
          | (r120, I121, J122) =>
            if r120 = true then
              (true, I121, J122)
            else
              (false, I121, J122)
        else
          (false, I114, J115)
    else
      if gi I 57 7 = 2 ∧ gj J 57 12 = wt 3 then
        match fX10_readMint (I, J) with
        | (r98, I99, J100) =>
          if r98 = true then
            match fX10_readEnd (I99, J100) with
            | (r105, I106, J107) =>
              if r105 = true then
                (true, I106, J107)
              else
                (false, I106, J107)
          else
            (false, I99, J100)
      else
        if gi I 57 7 = 2 ∧ gj J 57 12 = wt 4 then
          match fX10_readTakes (I, J) with
          | (r83, I84, J85) =>
            if r83 = true then
              match fX10_readEnd (I84, J85) with
              | (r90, I91, J92) =>
                if r90 = true then
                  (true, I91, J92)
                else
                  (false, I91, J92)
            else
              (false, I84, J85)
        else
          if gi I 57 7 = 2 ∧ gj J 57 12 = wt 5 then
            match fX10_readOnce0 (I, J) with
            | (r68, I69, J70) =>
              if r68 = true then
                match fX10_readEnd (I69, J70) with
                | (r75, I76, J77) =>
                  if r75 = true then
                    (true, I76, J77)
                  else
                    (false, I76, J77)
              else
                (false, I69, J70)
          else
            if gi I 57 7 = 2 ∧ gj J 57 12 = wt 6 then
              match fX10_readOnce1 (I, J) with
              | (r53, I54, J55) =>
                if r53 = true then
                  match fX10_readEnd (I54, J55) with
                  | (r60, I61, J62) =>
                    if r60 = true then
                      (true, I61, J62)
                    else
                      (false, I61, J62)
                else
                  (false, I54, J55)
            else
              if gi I 57 7 = 2 ∧ gj J 57 12 = wt 7 then
                match fX10_readOnce2 (I, J) with
                | (r38, I39, J40) =>
                  if r38 = true then
                    match fX10_readEnd (I39, J40) with
                    | (r45, I46, J47) =>
                      if r45 = true then
                        (true, I46, J47)
                      else
                        (false, I46, J47)
                  else
                    (false, I39, J40)
              else
                if gi I 57 7 = 2 ∧ gj J 57 12 = wt 8 then
                  match fX10_readOnce3 (I, J) with
                  | (r23, I24, J25) =>
                    if r23 = true then
                      match fX10_readEnd (I24, J25) with
                      | (r30, I31, J32) =>
                        if r30 = true then
                          (true, I31, J32)
                        else
                          (false, I31, J32)
                    else
                      (false, I24, J25)
                else
                  match fX10_bad 1 (I, J) with
                  | (r8, I9, J10) =>
                    if r8 = true then
                      match fX10_readEnd (I9, J10) with
                      | (r15, I16, J17) =>
                        if r15 = true then
                          (true, I16, J17)
                        else
                          (false, I16, J17)
                    else
                      (false, I9, J10)
theorem frX10_readLine {S : Mi × Mj} {r0 : Bool} {I0 : Mi} {J0 : Mj} (h : fX10_readLine  S = (r0, I0, J0)) (aq kq : Nat) (haq : aq ≠ 60 ∧ ¬ (aq = 57 ∧ kq = 10) ∧ ¬ (aq = 57 ∧ kq = 11) ∧ ¬ (aq = 57 ∧ kq = 13) ∧ ¬ (aq = 57 ∧ kq = 24) ∧ ¬ (aq = 57 ∧ kq = 5) ∧ ¬ (aq = 57 ∧ kq = 6) ∧ ¬ (aq = 57 ∧ kq = 7) ∧ ¬ (aq = 57 ∧ kq = 8) ∧ ¬ (aq = 57 ∧ kq = 9)) : I0 aq kq = S.1 aq kq := by
  obtain ⟨I, J⟩ := S
  unfold fX10_readLine at h
  try simp only at h
  by_cases hq1 : gi I 57 7 = 2 ∧ gj J 57 12 = wt 0
  · simp only [if_pos hq1] at h
    obtain ⟨⟨r113, I114, J115⟩, hq2⟩ : ∃ q, q = fX10_readWho (I, J) := ⟨_, rfl⟩
    rw [← hq2] at h; try simp only at h
    by_cases hq3 : r113 = true
    · simp only [if_pos hq3] at h
      obtain ⟨⟨r120, I121, J122⟩, hq4⟩ : ∃ q, q = fX10_readEnd (I114, J115) := ⟨_, rfl⟩
      rw [← hq4] at h; try simp only at h
      by_cases hq5 : r120 = true
      · simp only [if_pos hq5] at h
        simp only [Prod.mk.injEq] at h
        obtain ⟨-, hI, hJ⟩ := h
        exact (congrFun (congrFun hI aq) kq).symm.trans (Eq.trans (frX10_readEnd hq4.symm aq kq ⟨haq.2.1, haq.2.2.1, haq.2.2.2.2.2.1, haq.2.2.2.2.2.2.1, haq.2.2.2.2.2.2.2.1, haq.2.2.2.2.2.2.2.2.1, haq.2.2.2.2.2.2.2.2.2⟩) (Eq.trans (frX10_readWho hq2.symm aq kq ⟨haq.1, haq.2.1, haq.2.2.1, haq.2.2.2.2.2.1, haq.2.2.2.2.2.2.1, haq.2.2.2.2.2.2.2.1, haq.2.2.2.2.2.2.2.2.1, haq.2.2.2.2.2.2.2.2.2⟩) rfl))
      · simp only [if_neg hq5] at h
        simp only [Prod.mk.injEq] at h
        obtain ⟨-, hI, hJ⟩ := h
        exact (congrFun (congrFun hI aq) kq).symm.trans (Eq.trans (frX10_readEnd hq4.symm aq kq ⟨haq.2.1, haq.2.2.1, haq.2.2.2.2.2.1, haq.2.2.2.2.2.2.1, haq.2.2.2.2.2.2.2.1, haq.2.2.2.2.2.2.2.2.1, haq.2.2.2.2.2.2.2.2.2⟩) (Eq.trans (frX10_readWho hq2.symm aq kq ⟨haq.1, haq.2.1, haq.2.2.1, haq.2.2.2.2.2.1, haq.2.2.2.2.2.2.1, haq.2.2.2.2.2.2.2.1, haq.2.2.2.2.2.2.2.2.1, haq.2.2.2.2.2.2.2.2.2⟩) rfl))
    · simp only [if_neg hq3] at h
      simp only [Prod.mk.injEq] at h
      obtain ⟨-, hI, hJ⟩ := h
      exact (congrFun (congrFun hI aq) kq).symm.trans (Eq.trans (frX10_readWho hq2.symm aq kq ⟨haq.1, haq.2.1, haq.2.2.1, haq.2.2.2.2.2.1, haq.2.2.2.2.2.2.1, haq.2.2.2.2.2.2.2.1, haq.2.2.2.2.2.2.2.2.1, haq.2.2.2.2.2.2.2.2.2⟩) rfl)
  · simp only [if_neg hq1] at h
    by_cases hq6 : gi I 57 7 = 2 ∧ gj J 57 12 = wt 3
    · simp only [if_pos hq6] at h
      obtain ⟨⟨r98, I99, J100⟩, hq7⟩ : ∃ q, q = fX10_readMint (I, J) := ⟨_, rfl⟩
      rw [← hq7] at h; try simp only at h
      by_cases hq8 : r98 = true
      · simp only [if_pos hq8] at h
        obtain ⟨⟨r105, I106, J107⟩, hq9⟩ : ∃ q, q = fX10_readEnd (I99, J100) := ⟨_, rfl⟩
        rw [← hq9] at h; try simp only at h
        by_cases hq10 : r105 = true
        · simp only [if_pos hq10] at h
          simp only [Prod.mk.injEq] at h
          obtain ⟨-, hI, hJ⟩ := h
          exact (congrFun (congrFun hI aq) kq).symm.trans (Eq.trans (frX10_readEnd hq9.symm aq kq ⟨haq.2.1, haq.2.2.1, haq.2.2.2.2.2.1, haq.2.2.2.2.2.2.1, haq.2.2.2.2.2.2.2.1, haq.2.2.2.2.2.2.2.2.1, haq.2.2.2.2.2.2.2.2.2⟩) (Eq.trans (frX10_readMint hq7.symm aq kq ⟨haq.1, haq.2.1, haq.2.2.1, haq.2.2.2.1, haq.2.2.2.2.2.1, haq.2.2.2.2.2.2.1, haq.2.2.2.2.2.2.2.1, haq.2.2.2.2.2.2.2.2.1, haq.2.2.2.2.2.2.2.2.2⟩) rfl))
        · simp only [if_neg hq10] at h
          simp only [Prod.mk.injEq] at h
          obtain ⟨-, hI, hJ⟩ := h
          exact (congrFun (congrFun hI aq) kq).symm.trans (Eq.trans (frX10_readEnd hq9.symm aq kq ⟨haq.2.1, haq.2.2.1, haq.2.2.2.2.2.1, haq.2.2.2.2.2.2.1, haq.2.2.2.2.2.2.2.1, haq.2.2.2.2.2.2.2.2.1, haq.2.2.2.2.2.2.2.2.2⟩) (Eq.trans (frX10_readMint hq7.symm aq kq ⟨haq.1, haq.2.1, haq.2.2.1, haq.2.2.2.1, haq.2.2.2.2.2.1, haq.2.2.2.2.2.2.1, haq.2.2.2.2.2.2.2.1, haq.2.2.2.2.2.2.2.2.1, haq.2.2.2.2.2.2.2.2.2⟩) rfl))
      · simp only [if_neg hq8] at h
        simp only [Prod.mk.injEq] at h
        obtain ⟨-, hI, hJ⟩ := h
        exact (congrFun (congrFun hI aq) kq).symm.trans (Eq.trans (frX10_readMint hq7.symm aq kq ⟨haq.1, haq.2.1, haq.2.2.1, haq.2.2.2.1, haq.2.2.2.2.2.1, haq.2.2.2.2.2.2.1, haq.2.2.2.2.2.2.2.1, haq.2.2.2.2.2.2.2.2.1, haq.2.2.2.2.2.2.2.2.2⟩) rfl)
    · simp only [if_neg hq6] at h
      by_cases hq11 : gi I 57 7 = 2 ∧ gj J 57 12 = wt 4
      · simp only [if_pos hq11] at h
        obtain ⟨⟨r83, I84, J85⟩, hq12⟩ : ∃ q, q = fX10_readTakes (I, J) := ⟨_, rfl⟩
        rw [← hq12] at h; try simp only at h
        by_cases hq13 : r83 = true
        · simp only [if_pos hq13] at h
          obtain ⟨⟨r90, I91, J92⟩, hq14⟩ : ∃ q, q = fX10_readEnd (I84, J85) := ⟨_, rfl⟩
          rw [← hq14] at h; try simp only at h
          by_cases hq15 : r90 = true
          · simp only [if_pos hq15] at h
            simp only [Prod.mk.injEq] at h
            obtain ⟨-, hI, hJ⟩ := h
            exact (congrFun (congrFun hI aq) kq).symm.trans (Eq.trans (frX10_readEnd hq14.symm aq kq ⟨haq.2.1, haq.2.2.1, haq.2.2.2.2.2.1, haq.2.2.2.2.2.2.1, haq.2.2.2.2.2.2.2.1, haq.2.2.2.2.2.2.2.2.1, haq.2.2.2.2.2.2.2.2.2⟩) (Eq.trans (frX10_readTakes hq12.symm aq kq ⟨haq.1, haq.2.1, haq.2.2.1, haq.2.2.2.1, haq.2.2.2.2.2.1, haq.2.2.2.2.2.2.1, haq.2.2.2.2.2.2.2.1, haq.2.2.2.2.2.2.2.2.1, haq.2.2.2.2.2.2.2.2.2⟩) rfl))
          · simp only [if_neg hq15] at h
            simp only [Prod.mk.injEq] at h
            obtain ⟨-, hI, hJ⟩ := h
            exact (congrFun (congrFun hI aq) kq).symm.trans (Eq.trans (frX10_readEnd hq14.symm aq kq ⟨haq.2.1, haq.2.2.1, haq.2.2.2.2.2.1, haq.2.2.2.2.2.2.1, haq.2.2.2.2.2.2.2.1, haq.2.2.2.2.2.2.2.2.1, haq.2.2.2.2.2.2.2.2.2⟩) (Eq.trans (frX10_readTakes hq12.symm aq kq ⟨haq.1, haq.2.1, haq.2.2.1, haq.2.2.2.1, haq.2.2.2.2.2.1, haq.2.2.2.2.2.2.1, haq.2.2.2.2.2.2.2.1, haq.2.2.2.2.2.2.2.2.1, haq.2.2.2.2.2.2.2.2.2⟩) rfl))
        · simp only [if_neg hq13] at h
          simp only [Prod.mk.injEq] at h
          obtain ⟨-, hI, hJ⟩ := h
          exact (congrFun (congrFun hI aq) kq).symm.trans (Eq.trans (frX10_readTakes hq12.symm aq kq ⟨haq.1, haq.2.1, haq.2.2.1, haq.2.2.2.1, haq.2.2.2.2.2.1, haq.2.2.2.2.2.2.1, haq.2.2.2.2.2.2.2.1, haq.2.2.2.2.2.2.2.2.1, haq.2.2.2.2.2.2.2.2.2⟩) rfl)
      · simp only [if_neg hq11] at h
        by_cases hq16 : gi I 57 7 = 2 ∧ gj J 57 12 = wt 5
        · simp only [if_pos hq16] at h
          obtain ⟨⟨r68, I69, J70⟩, hq17⟩ : ∃ q, q = fX10_readOnce0 (I, J) := ⟨_, rfl⟩
          rw [← hq17] at h; try simp only at h
          by_cases hq18 : r68 = true
          · simp only [if_pos hq18] at h
            obtain ⟨⟨r75, I76, J77⟩, hq19⟩ : ∃ q, q = fX10_readEnd (I69, J70) := ⟨_, rfl⟩
            rw [← hq19] at h; try simp only at h
            by_cases hq20 : r75 = true
            · simp only [if_pos hq20] at h
              simp only [Prod.mk.injEq] at h
              obtain ⟨-, hI, hJ⟩ := h
              exact (congrFun (congrFun hI aq) kq).symm.trans (Eq.trans (frX10_readEnd hq19.symm aq kq ⟨haq.2.1, haq.2.2.1, haq.2.2.2.2.2.1, haq.2.2.2.2.2.2.1, haq.2.2.2.2.2.2.2.1, haq.2.2.2.2.2.2.2.2.1, haq.2.2.2.2.2.2.2.2.2⟩) (Eq.trans (frX10_readOnce0 hq17.symm aq kq ⟨haq.2.1, haq.2.2.1, haq.2.2.2.1, haq.2.2.2.2.1, haq.2.2.2.2.2.1, haq.2.2.2.2.2.2.1, haq.2.2.2.2.2.2.2.1, haq.2.2.2.2.2.2.2.2.1, haq.2.2.2.2.2.2.2.2.2, (fun q => haq.1 q.1)⟩) rfl))
            · simp only [if_neg hq20] at h
              simp only [Prod.mk.injEq] at h
              obtain ⟨-, hI, hJ⟩ := h
              exact (congrFun (congrFun hI aq) kq).symm.trans (Eq.trans (frX10_readEnd hq19.symm aq kq ⟨haq.2.1, haq.2.2.1, haq.2.2.2.2.2.1, haq.2.2.2.2.2.2.1, haq.2.2.2.2.2.2.2.1, haq.2.2.2.2.2.2.2.2.1, haq.2.2.2.2.2.2.2.2.2⟩) (Eq.trans (frX10_readOnce0 hq17.symm aq kq ⟨haq.2.1, haq.2.2.1, haq.2.2.2.1, haq.2.2.2.2.1, haq.2.2.2.2.2.1, haq.2.2.2.2.2.2.1, haq.2.2.2.2.2.2.2.1, haq.2.2.2.2.2.2.2.2.1, haq.2.2.2.2.2.2.2.2.2, (fun q => haq.1 q.1)⟩) rfl))
          · simp only [if_neg hq18] at h
            simp only [Prod.mk.injEq] at h
            obtain ⟨-, hI, hJ⟩ := h
            exact (congrFun (congrFun hI aq) kq).symm.trans (Eq.trans (frX10_readOnce0 hq17.symm aq kq ⟨haq.2.1, haq.2.2.1, haq.2.2.2.1, haq.2.2.2.2.1, haq.2.2.2.2.2.1, haq.2.2.2.2.2.2.1, haq.2.2.2.2.2.2.2.1, haq.2.2.2.2.2.2.2.2.1, haq.2.2.2.2.2.2.2.2.2, (fun q => haq.1 q.1)⟩) rfl)
        · simp only [if_neg hq16] at h
          by_cases hq21 : gi I 57 7 = 2 ∧ gj J 57 12 = wt 6
          · simp only [if_pos hq21] at h
            obtain ⟨⟨r53, I54, J55⟩, hq22⟩ : ∃ q, q = fX10_readOnce1 (I, J) := ⟨_, rfl⟩
            rw [← hq22] at h; try simp only at h
            by_cases hq23 : r53 = true
            · simp only [if_pos hq23] at h
              obtain ⟨⟨r60, I61, J62⟩, hq24⟩ : ∃ q, q = fX10_readEnd (I54, J55) := ⟨_, rfl⟩
              rw [← hq24] at h; try simp only at h
              by_cases hq25 : r60 = true
              · simp only [if_pos hq25] at h
                simp only [Prod.mk.injEq] at h
                obtain ⟨-, hI, hJ⟩ := h
                exact (congrFun (congrFun hI aq) kq).symm.trans (Eq.trans (frX10_readEnd hq24.symm aq kq ⟨haq.2.1, haq.2.2.1, haq.2.2.2.2.2.1, haq.2.2.2.2.2.2.1, haq.2.2.2.2.2.2.2.1, haq.2.2.2.2.2.2.2.2.1, haq.2.2.2.2.2.2.2.2.2⟩) (Eq.trans (frX10_readOnce1 hq22.symm aq kq ⟨haq.2.1, haq.2.2.1, haq.2.2.2.1, haq.2.2.2.2.1, haq.2.2.2.2.2.1, haq.2.2.2.2.2.2.1, haq.2.2.2.2.2.2.2.1, haq.2.2.2.2.2.2.2.2.1, haq.2.2.2.2.2.2.2.2.2, (fun q => haq.1 q.1)⟩) rfl))
              · simp only [if_neg hq25] at h
                simp only [Prod.mk.injEq] at h
                obtain ⟨-, hI, hJ⟩ := h
                exact (congrFun (congrFun hI aq) kq).symm.trans (Eq.trans (frX10_readEnd hq24.symm aq kq ⟨haq.2.1, haq.2.2.1, haq.2.2.2.2.2.1, haq.2.2.2.2.2.2.1, haq.2.2.2.2.2.2.2.1, haq.2.2.2.2.2.2.2.2.1, haq.2.2.2.2.2.2.2.2.2⟩) (Eq.trans (frX10_readOnce1 hq22.symm aq kq ⟨haq.2.1, haq.2.2.1, haq.2.2.2.1, haq.2.2.2.2.1, haq.2.2.2.2.2.1, haq.2.2.2.2.2.2.1, haq.2.2.2.2.2.2.2.1, haq.2.2.2.2.2.2.2.2.1, haq.2.2.2.2.2.2.2.2.2, (fun q => haq.1 q.1)⟩) rfl))
            · simp only [if_neg hq23] at h
              simp only [Prod.mk.injEq] at h
              obtain ⟨-, hI, hJ⟩ := h
              exact (congrFun (congrFun hI aq) kq).symm.trans (Eq.trans (frX10_readOnce1 hq22.symm aq kq ⟨haq.2.1, haq.2.2.1, haq.2.2.2.1, haq.2.2.2.2.1, haq.2.2.2.2.2.1, haq.2.2.2.2.2.2.1, haq.2.2.2.2.2.2.2.1, haq.2.2.2.2.2.2.2.2.1, haq.2.2.2.2.2.2.2.2.2, (fun q => haq.1 q.1)⟩) rfl)
          · simp only [if_neg hq21] at h
            by_cases hq26 : gi I 57 7 = 2 ∧ gj J 57 12 = wt 7
            · simp only [if_pos hq26] at h
              obtain ⟨⟨r38, I39, J40⟩, hq27⟩ : ∃ q, q = fX10_readOnce2 (I, J) := ⟨_, rfl⟩
              rw [← hq27] at h; try simp only at h
              by_cases hq28 : r38 = true
              · simp only [if_pos hq28] at h
                obtain ⟨⟨r45, I46, J47⟩, hq29⟩ : ∃ q, q = fX10_readEnd (I39, J40) := ⟨_, rfl⟩
                rw [← hq29] at h; try simp only at h
                by_cases hq30 : r45 = true
                · simp only [if_pos hq30] at h
                  simp only [Prod.mk.injEq] at h
                  obtain ⟨-, hI, hJ⟩ := h
                  exact (congrFun (congrFun hI aq) kq).symm.trans (Eq.trans (frX10_readEnd hq29.symm aq kq ⟨haq.2.1, haq.2.2.1, haq.2.2.2.2.2.1, haq.2.2.2.2.2.2.1, haq.2.2.2.2.2.2.2.1, haq.2.2.2.2.2.2.2.2.1, haq.2.2.2.2.2.2.2.2.2⟩) (Eq.trans (frX10_readOnce2 hq27.symm aq kq ⟨haq.2.1, haq.2.2.1, haq.2.2.2.1, haq.2.2.2.2.1, haq.2.2.2.2.2.1, haq.2.2.2.2.2.2.1, haq.2.2.2.2.2.2.2.1, haq.2.2.2.2.2.2.2.2.1, haq.2.2.2.2.2.2.2.2.2, (fun q => haq.1 q.1)⟩) rfl))
                · simp only [if_neg hq30] at h
                  simp only [Prod.mk.injEq] at h
                  obtain ⟨-, hI, hJ⟩ := h
                  exact (congrFun (congrFun hI aq) kq).symm.trans (Eq.trans (frX10_readEnd hq29.symm aq kq ⟨haq.2.1, haq.2.2.1, haq.2.2.2.2.2.1, haq.2.2.2.2.2.2.1, haq.2.2.2.2.2.2.2.1, haq.2.2.2.2.2.2.2.2.1, haq.2.2.2.2.2.2.2.2.2⟩) (Eq.trans (frX10_readOnce2 hq27.symm aq kq ⟨haq.2.1, haq.2.2.1, haq.2.2.2.1, haq.2.2.2.2.1, haq.2.2.2.2.2.1, haq.2.2.2.2.2.2.1, haq.2.2.2.2.2.2.2.1, haq.2.2.2.2.2.2.2.2.1, haq.2.2.2.2.2.2.2.2.2, (fun q => haq.1 q.1)⟩) rfl))
              · simp only [if_neg hq28] at h
                simp only [Prod.mk.injEq] at h
                obtain ⟨-, hI, hJ⟩ := h
                exact (congrFun (congrFun hI aq) kq).symm.trans (Eq.trans (frX10_readOnce2 hq27.symm aq kq ⟨haq.2.1, haq.2.2.1, haq.2.2.2.1, haq.2.2.2.2.1, haq.2.2.2.2.2.1, haq.2.2.2.2.2.2.1, haq.2.2.2.2.2.2.2.1, haq.2.2.2.2.2.2.2.2.1, haq.2.2.2.2.2.2.2.2.2, (fun q => haq.1 q.1)⟩) rfl)
            · simp only [if_neg hq26] at h
              by_cases hq31 : gi I 57 7 = 2 ∧ gj J 57 12 = wt 8
              · simp only [if_pos hq31] at h
                obtain ⟨⟨r23, I24, J25⟩, hq32⟩ : ∃ q, q = fX10_readOnce3 (I, J) := ⟨_, rfl⟩
                rw [← hq32] at h; try simp only at h
                by_cases hq33 : r23 = true
                · simp only [if_pos hq33] at h
                  obtain ⟨⟨r30, I31, J32⟩, hq34⟩ : ∃ q, q = fX10_readEnd (I24, J25) := ⟨_, rfl⟩
                  rw [← hq34] at h; try simp only at h
                  by_cases hq35 : r30 = true
                  · simp only [if_pos hq35] at h
                    simp only [Prod.mk.injEq] at h
                    obtain ⟨-, hI, hJ⟩ := h
                    exact (congrFun (congrFun hI aq) kq).symm.trans (Eq.trans (frX10_readEnd hq34.symm aq kq ⟨haq.2.1, haq.2.2.1, haq.2.2.2.2.2.1, haq.2.2.2.2.2.2.1, haq.2.2.2.2.2.2.2.1, haq.2.2.2.2.2.2.2.2.1, haq.2.2.2.2.2.2.2.2.2⟩) (Eq.trans (frX10_readOnce3 hq32.symm aq kq ⟨haq.2.1, haq.2.2.1, haq.2.2.2.1, haq.2.2.2.2.1, haq.2.2.2.2.2.1, haq.2.2.2.2.2.2.1, haq.2.2.2.2.2.2.2.1, haq.2.2.2.2.2.2.2.2.1, haq.2.2.2.2.2.2.2.2.2, (fun q => haq.1 q.1)⟩) rfl))
                  · simp only [if_neg hq35] at h
                    simp only [Prod.mk.injEq] at h
                    obtain ⟨-, hI, hJ⟩ := h
                    exact (congrFun (congrFun hI aq) kq).symm.trans (Eq.trans (frX10_readEnd hq34.symm aq kq ⟨haq.2.1, haq.2.2.1, haq.2.2.2.2.2.1, haq.2.2.2.2.2.2.1, haq.2.2.2.2.2.2.2.1, haq.2.2.2.2.2.2.2.2.1, haq.2.2.2.2.2.2.2.2.2⟩) (Eq.trans (frX10_readOnce3 hq32.symm aq kq ⟨haq.2.1, haq.2.2.1, haq.2.2.2.1, haq.2.2.2.2.1, haq.2.2.2.2.2.1, haq.2.2.2.2.2.2.1, haq.2.2.2.2.2.2.2.1, haq.2.2.2.2.2.2.2.2.1, haq.2.2.2.2.2.2.2.2.2, (fun q => haq.1 q.1)⟩) rfl))
                · simp only [if_neg hq33] at h
                  simp only [Prod.mk.injEq] at h
                  obtain ⟨-, hI, hJ⟩ := h
                  exact (congrFun (congrFun hI aq) kq).symm.trans (Eq.trans (frX10_readOnce3 hq32.symm aq kq ⟨haq.2.1, haq.2.2.1, haq.2.2.2.1, haq.2.2.2.2.1, haq.2.2.2.2.2.1, haq.2.2.2.2.2.2.1, haq.2.2.2.2.2.2.2.1, haq.2.2.2.2.2.2.2.2.1, haq.2.2.2.2.2.2.2.2.2, (fun q => haq.1 q.1)⟩) rfl)
              · simp only [if_neg hq31] at h
                obtain ⟨⟨r8, I9, J10⟩, hq36⟩ : ∃ q, q = fX10_bad 1 (I, J) := ⟨_, rfl⟩
                rw [← hq36] at h; try simp only at h
                by_cases hq37 : r8 = true
                · simp only [if_pos hq37] at h
                  obtain ⟨⟨r15, I16, J17⟩, hq38⟩ : ∃ q, q = fX10_readEnd (I9, J10) := ⟨_, rfl⟩
                  rw [← hq38] at h; try simp only at h
                  by_cases hq39 : r15 = true
                  · simp only [if_pos hq39] at h
                    simp only [Prod.mk.injEq] at h
                    obtain ⟨-, hI, hJ⟩ := h
                    exact (congrFun (congrFun hI aq) kq).symm.trans (Eq.trans (frX10_readEnd hq38.symm aq kq ⟨haq.2.1, haq.2.2.1, haq.2.2.2.2.2.1, haq.2.2.2.2.2.2.1, haq.2.2.2.2.2.2.2.1, haq.2.2.2.2.2.2.2.2.1, haq.2.2.2.2.2.2.2.2.2⟩) (Eq.trans (frX10_bad hq36.symm aq kq ⟨haq.2.1, haq.2.2.1⟩) rfl))
                  · simp only [if_neg hq39] at h
                    simp only [Prod.mk.injEq] at h
                    obtain ⟨-, hI, hJ⟩ := h
                    exact (congrFun (congrFun hI aq) kq).symm.trans (Eq.trans (frX10_readEnd hq38.symm aq kq ⟨haq.2.1, haq.2.2.1, haq.2.2.2.2.2.1, haq.2.2.2.2.2.2.1, haq.2.2.2.2.2.2.2.1, haq.2.2.2.2.2.2.2.2.1, haq.2.2.2.2.2.2.2.2.2⟩) (Eq.trans (frX10_bad hq36.symm aq kq ⟨haq.2.1, haq.2.2.1⟩) rfl))
                · simp only [if_neg hq37] at h
                  simp only [Prod.mk.injEq] at h
                  obtain ⟨-, hI, hJ⟩ := h
                  exact (congrFun (congrFun hI aq) kq).symm.trans (Eq.trans (frX10_bad hq36.symm aq kq ⟨haq.2.1, haq.2.2.1⟩) rfl)
theorem fjX10_readLine {S : Mi × Mj} {r0 : Bool} {I0 : Mi} {J0 : Mj} (h : fX10_readLine  S = (r0, I0, J0)) (aq kq : Nat) (haq : aq ≠ 64 ∧ ¬ (aq = 57 ∧ kq = 12)) : J0 aq kq = S.2 aq kq := by
  obtain ⟨I, J⟩ := S
  unfold fX10_readLine at h
  try simp only at h
  by_cases hq1 : gi I 57 7 = 2 ∧ gj J 57 12 = wt 0
  · simp only [if_pos hq1] at h
    obtain ⟨⟨r113, I114, J115⟩, hq2⟩ : ∃ q, q = fX10_readWho (I, J) := ⟨_, rfl⟩
    rw [← hq2] at h; try simp only at h
    by_cases hq3 : r113 = true
    · simp only [if_pos hq3] at h
      obtain ⟨⟨r120, I121, J122⟩, hq4⟩ : ∃ q, q = fX10_readEnd (I114, J115) := ⟨_, rfl⟩
      rw [← hq4] at h; try simp only at h
      by_cases hq5 : r120 = true
      · simp only [if_pos hq5] at h
        simp only [Prod.mk.injEq] at h
        obtain ⟨-, hI, hJ⟩ := h
        exact (congrFun (congrFun hJ aq) kq).symm.trans (Eq.trans (fjX10_readEnd hq4.symm aq kq haq.2) (Eq.trans (fjX10_readWho hq2.symm aq kq ⟨haq.1, haq.2⟩) rfl))
      · simp only [if_neg hq5] at h
        simp only [Prod.mk.injEq] at h
        obtain ⟨-, hI, hJ⟩ := h
        exact (congrFun (congrFun hJ aq) kq).symm.trans (Eq.trans (fjX10_readEnd hq4.symm aq kq haq.2) (Eq.trans (fjX10_readWho hq2.symm aq kq ⟨haq.1, haq.2⟩) rfl))
    · simp only [if_neg hq3] at h
      simp only [Prod.mk.injEq] at h
      obtain ⟨-, hI, hJ⟩ := h
      exact (congrFun (congrFun hJ aq) kq).symm.trans (Eq.trans (fjX10_readWho hq2.symm aq kq ⟨haq.1, haq.2⟩) rfl)
  · simp only [if_neg hq1] at h
    by_cases hq6 : gi I 57 7 = 2 ∧ gj J 57 12 = wt 3
    · simp only [if_pos hq6] at h
      obtain ⟨⟨r98, I99, J100⟩, hq7⟩ : ∃ q, q = fX10_readMint (I, J) := ⟨_, rfl⟩
      rw [← hq7] at h; try simp only at h
      by_cases hq8 : r98 = true
      · simp only [if_pos hq8] at h
        obtain ⟨⟨r105, I106, J107⟩, hq9⟩ : ∃ q, q = fX10_readEnd (I99, J100) := ⟨_, rfl⟩
        rw [← hq9] at h; try simp only at h
        by_cases hq10 : r105 = true
        · simp only [if_pos hq10] at h
          simp only [Prod.mk.injEq] at h
          obtain ⟨-, hI, hJ⟩ := h
          exact (congrFun (congrFun hJ aq) kq).symm.trans (Eq.trans (fjX10_readEnd hq9.symm aq kq haq.2) (Eq.trans (fjX10_readMint hq7.symm aq kq ⟨haq.1, haq.2⟩) rfl))
        · simp only [if_neg hq10] at h
          simp only [Prod.mk.injEq] at h
          obtain ⟨-, hI, hJ⟩ := h
          exact (congrFun (congrFun hJ aq) kq).symm.trans (Eq.trans (fjX10_readEnd hq9.symm aq kq haq.2) (Eq.trans (fjX10_readMint hq7.symm aq kq ⟨haq.1, haq.2⟩) rfl))
      · simp only [if_neg hq8] at h
        simp only [Prod.mk.injEq] at h
        obtain ⟨-, hI, hJ⟩ := h
        exact (congrFun (congrFun hJ aq) kq).symm.trans (Eq.trans (fjX10_readMint hq7.symm aq kq ⟨haq.1, haq.2⟩) rfl)
    · simp only [if_neg hq6] at h
      by_cases hq11 : gi I 57 7 = 2 ∧ gj J 57 12 = wt 4
      · simp only [if_pos hq11] at h
        obtain ⟨⟨r83, I84, J85⟩, hq12⟩ : ∃ q, q = fX10_readTakes (I, J) := ⟨_, rfl⟩
        rw [← hq12] at h; try simp only at h
        by_cases hq13 : r83 = true
        · simp only [if_pos hq13] at h
          obtain ⟨⟨r90, I91, J92⟩, hq14⟩ : ∃ q, q = fX10_readEnd (I84, J85) := ⟨_, rfl⟩
          rw [← hq14] at h; try simp only at h
          by_cases hq15 : r90 = true
          · simp only [if_pos hq15] at h
            simp only [Prod.mk.injEq] at h
            obtain ⟨-, hI, hJ⟩ := h
            exact (congrFun (congrFun hJ aq) kq).symm.trans (Eq.trans (fjX10_readEnd hq14.symm aq kq haq.2) (Eq.trans (fjX10_readTakes hq12.symm aq kq haq.2) rfl))
          · simp only [if_neg hq15] at h
            simp only [Prod.mk.injEq] at h
            obtain ⟨-, hI, hJ⟩ := h
            exact (congrFun (congrFun hJ aq) kq).symm.trans (Eq.trans (fjX10_readEnd hq14.symm aq kq haq.2) (Eq.trans (fjX10_readTakes hq12.symm aq kq haq.2) rfl))
        · simp only [if_neg hq13] at h
          simp only [Prod.mk.injEq] at h
          obtain ⟨-, hI, hJ⟩ := h
          exact (congrFun (congrFun hJ aq) kq).symm.trans (Eq.trans (fjX10_readTakes hq12.symm aq kq haq.2) rfl)
      · simp only [if_neg hq11] at h
        by_cases hq16 : gi I 57 7 = 2 ∧ gj J 57 12 = wt 5
        · simp only [if_pos hq16] at h
          obtain ⟨⟨r68, I69, J70⟩, hq17⟩ : ∃ q, q = fX10_readOnce0 (I, J) := ⟨_, rfl⟩
          rw [← hq17] at h; try simp only at h
          by_cases hq18 : r68 = true
          · simp only [if_pos hq18] at h
            obtain ⟨⟨r75, I76, J77⟩, hq19⟩ : ∃ q, q = fX10_readEnd (I69, J70) := ⟨_, rfl⟩
            rw [← hq19] at h; try simp only at h
            by_cases hq20 : r75 = true
            · simp only [if_pos hq20] at h
              simp only [Prod.mk.injEq] at h
              obtain ⟨-, hI, hJ⟩ := h
              exact (congrFun (congrFun hJ aq) kq).symm.trans (Eq.trans (fjX10_readEnd hq19.symm aq kq haq.2) (Eq.trans (fjX10_readOnce0 hq17.symm aq kq haq.2) rfl))
            · simp only [if_neg hq20] at h
              simp only [Prod.mk.injEq] at h
              obtain ⟨-, hI, hJ⟩ := h
              exact (congrFun (congrFun hJ aq) kq).symm.trans (Eq.trans (fjX10_readEnd hq19.symm aq kq haq.2) (Eq.trans (fjX10_readOnce0 hq17.symm aq kq haq.2) rfl))
          · simp only [if_neg hq18] at h
            simp only [Prod.mk.injEq] at h
            obtain ⟨-, hI, hJ⟩ := h
            exact (congrFun (congrFun hJ aq) kq).symm.trans (Eq.trans (fjX10_readOnce0 hq17.symm aq kq haq.2) rfl)
        · simp only [if_neg hq16] at h
          by_cases hq21 : gi I 57 7 = 2 ∧ gj J 57 12 = wt 6
          · simp only [if_pos hq21] at h
            obtain ⟨⟨r53, I54, J55⟩, hq22⟩ : ∃ q, q = fX10_readOnce1 (I, J) := ⟨_, rfl⟩
            rw [← hq22] at h; try simp only at h
            by_cases hq23 : r53 = true
            · simp only [if_pos hq23] at h
              obtain ⟨⟨r60, I61, J62⟩, hq24⟩ : ∃ q, q = fX10_readEnd (I54, J55) := ⟨_, rfl⟩
              rw [← hq24] at h; try simp only at h
              by_cases hq25 : r60 = true
              · simp only [if_pos hq25] at h
                simp only [Prod.mk.injEq] at h
                obtain ⟨-, hI, hJ⟩ := h
                exact (congrFun (congrFun hJ aq) kq).symm.trans (Eq.trans (fjX10_readEnd hq24.symm aq kq haq.2) (Eq.trans (fjX10_readOnce1 hq22.symm aq kq haq.2) rfl))
              · simp only [if_neg hq25] at h
                simp only [Prod.mk.injEq] at h
                obtain ⟨-, hI, hJ⟩ := h
                exact (congrFun (congrFun hJ aq) kq).symm.trans (Eq.trans (fjX10_readEnd hq24.symm aq kq haq.2) (Eq.trans (fjX10_readOnce1 hq22.symm aq kq haq.2) rfl))
            · simp only [if_neg hq23] at h
              simp only [Prod.mk.injEq] at h
              obtain ⟨-, hI, hJ⟩ := h
              exact (congrFun (congrFun hJ aq) kq).symm.trans (Eq.trans (fjX10_readOnce1 hq22.symm aq kq haq.2) rfl)
          · simp only [if_neg hq21] at h
            by_cases hq26 : gi I 57 7 = 2 ∧ gj J 57 12 = wt 7
            · simp only [if_pos hq26] at h
              obtain ⟨⟨r38, I39, J40⟩, hq27⟩ : ∃ q, q = fX10_readOnce2 (I, J) := ⟨_, rfl⟩
              rw [← hq27] at h; try simp only at h
              by_cases hq28 : r38 = true
              · simp only [if_pos hq28] at h
                obtain ⟨⟨r45, I46, J47⟩, hq29⟩ : ∃ q, q = fX10_readEnd (I39, J40) := ⟨_, rfl⟩
                rw [← hq29] at h; try simp only at h
                by_cases hq30 : r45 = true
                · simp only [if_pos hq30] at h
                  simp only [Prod.mk.injEq] at h
                  obtain ⟨-, hI, hJ⟩ := h
                  exact (congrFun (congrFun hJ aq) kq).symm.trans (Eq.trans (fjX10_readEnd hq29.symm aq kq haq.2) (Eq.trans (fjX10_readOnce2 hq27.symm aq kq haq.2) rfl))
                · simp only [if_neg hq30] at h
                  simp only [Prod.mk.injEq] at h
                  obtain ⟨-, hI, hJ⟩ := h
                  exact (congrFun (congrFun hJ aq) kq).symm.trans (Eq.trans (fjX10_readEnd hq29.symm aq kq haq.2) (Eq.trans (fjX10_readOnce2 hq27.symm aq kq haq.2) rfl))
              · simp only [if_neg hq28] at h
                simp only [Prod.mk.injEq] at h
                obtain ⟨-, hI, hJ⟩ := h
                exact (congrFun (congrFun hJ aq) kq).symm.trans (Eq.trans (fjX10_readOnce2 hq27.symm aq kq haq.2) rfl)
            · simp only [if_neg hq26] at h
              by_cases hq31 : gi I 57 7 = 2 ∧ gj J 57 12 = wt 8
              · simp only [if_pos hq31] at h
                obtain ⟨⟨r23, I24, J25⟩, hq32⟩ : ∃ q, q = fX10_readOnce3 (I, J) := ⟨_, rfl⟩
                rw [← hq32] at h; try simp only at h
                by_cases hq33 : r23 = true
                · simp only [if_pos hq33] at h
                  obtain ⟨⟨r30, I31, J32⟩, hq34⟩ : ∃ q, q = fX10_readEnd (I24, J25) := ⟨_, rfl⟩
                  rw [← hq34] at h; try simp only at h
                  by_cases hq35 : r30 = true
                  · simp only [if_pos hq35] at h
                    simp only [Prod.mk.injEq] at h
                    obtain ⟨-, hI, hJ⟩ := h
                    exact (congrFun (congrFun hJ aq) kq).symm.trans (Eq.trans (fjX10_readEnd hq34.symm aq kq haq.2) (Eq.trans (fjX10_readOnce3 hq32.symm aq kq haq.2) rfl))
                  · simp only [if_neg hq35] at h
                    simp only [Prod.mk.injEq] at h
                    obtain ⟨-, hI, hJ⟩ := h
                    exact (congrFun (congrFun hJ aq) kq).symm.trans (Eq.trans (fjX10_readEnd hq34.symm aq kq haq.2) (Eq.trans (fjX10_readOnce3 hq32.symm aq kq haq.2) rfl))
                · simp only [if_neg hq33] at h
                  simp only [Prod.mk.injEq] at h
                  obtain ⟨-, hI, hJ⟩ := h
                  exact (congrFun (congrFun hJ aq) kq).symm.trans (Eq.trans (fjX10_readOnce3 hq32.symm aq kq haq.2) rfl)
              · simp only [if_neg hq31] at h
                obtain ⟨⟨r8, I9, J10⟩, hq36⟩ : ∃ q, q = fX10_bad 1 (I, J) := ⟨_, rfl⟩
                rw [← hq36] at h; try simp only at h
                by_cases hq37 : r8 = true
                · simp only [if_pos hq37] at h
                  obtain ⟨⟨r15, I16, J17⟩, hq38⟩ : ∃ q, q = fX10_readEnd (I9, J10) := ⟨_, rfl⟩
                  rw [← hq38] at h; try simp only at h
                  by_cases hq39 : r15 = true
                  · simp only [if_pos hq39] at h
                    simp only [Prod.mk.injEq] at h
                    obtain ⟨-, hI, hJ⟩ := h
                    exact (congrFun (congrFun hJ aq) kq).symm.trans (Eq.trans (fjX10_readEnd hq38.symm aq kq haq.2) (Eq.trans (fjX10_bad hq36.symm aq kq trivial) rfl))
                  · simp only [if_neg hq39] at h
                    simp only [Prod.mk.injEq] at h
                    obtain ⟨-, hI, hJ⟩ := h
                    exact (congrFun (congrFun hJ aq) kq).symm.trans (Eq.trans (fjX10_readEnd hq38.symm aq kq haq.2) (Eq.trans (fjX10_bad hq36.symm aq kq trivial) rfl))
                · simp only [if_neg hq37] at h
                  simp only [Prod.mk.injEq] at h
                  obtain ⟨-, hI, hJ⟩ := h
                  exact (congrFun (congrFun hJ aq) kq).symm.trans (Eq.trans (fjX10_bad hq36.symm aq kq trivial) rfl)
theorem okX10_readLine {I : Mi} {J : Mj} {r0 : Bool} {I0 : Mi} {J0 : Mj} (h : fX10_readLine  (I, J) = (r0, I0, J0)) (hl : LX I) : LX I0 := by
  unfold fX10_readLine at h
  try simp only at h
  have hb0 := hl
  unfold LX at hb0
  by_cases hq1 : gi I 57 7 = 2 ∧ gj J 57 12 = wt 0
  · simp only [if_pos hq1] at h
    obtain ⟨⟨r113, I114, J115⟩, hq2⟩ : ∃ q, q = fX10_readWho (I, J) := ⟨_, rfl⟩
    rw [← hq2] at h; try simp only at h
    have hl2 : LX I114 := okX10_readWho hq2.symm hl; have hbhl2 := hl2; unfold LX at hbhl2
    by_cases hq3 : r113 = true
    · simp only [if_pos hq3] at h
      obtain ⟨⟨r120, I121, J122⟩, hq4⟩ : ∃ q, q = fX10_readEnd (I114, J115) := ⟨_, rfl⟩
      rw [← hq4] at h; try simp only at h
      have hl4 : LX I121 := okX10_readEnd hq4.symm hl2; have hbhl4 := hl4; unfold LX at hbhl4
      by_cases hq5 : r120 = true
      · simp only [if_pos hq5] at h
        simp only [Prod.mk.injEq] at h
        obtain ⟨-, hI, hJ⟩ := h
        rw [← hI]
        exact hl4
      · simp only [if_neg hq5] at h
        simp only [Prod.mk.injEq] at h
        obtain ⟨-, hI, hJ⟩ := h
        rw [← hI]
        exact hl4
    · simp only [if_neg hq3] at h
      simp only [Prod.mk.injEq] at h
      obtain ⟨-, hI, hJ⟩ := h
      rw [← hI]
      exact hl2
  · simp only [if_neg hq1] at h
    by_cases hq6 : gi I 57 7 = 2 ∧ gj J 57 12 = wt 3
    · simp only [if_pos hq6] at h
      obtain ⟨⟨r98, I99, J100⟩, hq7⟩ : ∃ q, q = fX10_readMint (I, J) := ⟨_, rfl⟩
      rw [← hq7] at h; try simp only at h
      have hl7 : LX I99 := okX10_readMint hq7.symm hl; have hbhl7 := hl7; unfold LX at hbhl7
      by_cases hq8 : r98 = true
      · simp only [if_pos hq8] at h
        obtain ⟨⟨r105, I106, J107⟩, hq9⟩ : ∃ q, q = fX10_readEnd (I99, J100) := ⟨_, rfl⟩
        rw [← hq9] at h; try simp only at h
        have hl9 : LX I106 := okX10_readEnd hq9.symm hl7; have hbhl9 := hl9; unfold LX at hbhl9
        by_cases hq10 : r105 = true
        · simp only [if_pos hq10] at h
          simp only [Prod.mk.injEq] at h
          obtain ⟨-, hI, hJ⟩ := h
          rw [← hI]
          exact hl9
        · simp only [if_neg hq10] at h
          simp only [Prod.mk.injEq] at h
          obtain ⟨-, hI, hJ⟩ := h
          rw [← hI]
          exact hl9
      · simp only [if_neg hq8] at h
        simp only [Prod.mk.injEq] at h
        obtain ⟨-, hI, hJ⟩ := h
        rw [← hI]
        exact hl7
    · simp only [if_neg hq6] at h
      by_cases hq11 : gi I 57 7 = 2 ∧ gj J 57 12 = wt 4
      · simp only [if_pos hq11] at h
        obtain ⟨⟨r83, I84, J85⟩, hq12⟩ : ∃ q, q = fX10_readTakes (I, J) := ⟨_, rfl⟩
        rw [← hq12] at h; try simp only at h
        have hl12 : LX I84 := okX10_readTakes hq12.symm hl; have hbhl12 := hl12; unfold LX at hbhl12
        by_cases hq13 : r83 = true
        · simp only [if_pos hq13] at h
          obtain ⟨⟨r90, I91, J92⟩, hq14⟩ : ∃ q, q = fX10_readEnd (I84, J85) := ⟨_, rfl⟩
          rw [← hq14] at h; try simp only at h
          have hl14 : LX I91 := okX10_readEnd hq14.symm hl12; have hbhl14 := hl14; unfold LX at hbhl14
          by_cases hq15 : r90 = true
          · simp only [if_pos hq15] at h
            simp only [Prod.mk.injEq] at h
            obtain ⟨-, hI, hJ⟩ := h
            rw [← hI]
            exact hl14
          · simp only [if_neg hq15] at h
            simp only [Prod.mk.injEq] at h
            obtain ⟨-, hI, hJ⟩ := h
            rw [← hI]
            exact hl14
        · simp only [if_neg hq13] at h
          simp only [Prod.mk.injEq] at h
          obtain ⟨-, hI, hJ⟩ := h
          rw [← hI]
          exact hl12
      · simp only [if_neg hq11] at h
        by_cases hq16 : gi I 57 7 = 2 ∧ gj J 57 12 = wt 5
        · simp only [if_pos hq16] at h
          obtain ⟨⟨r68, I69, J70⟩, hq17⟩ : ∃ q, q = fX10_readOnce0 (I, J) := ⟨_, rfl⟩
          rw [← hq17] at h; try simp only at h
          have hl17 : LX I69 := okX10_readOnce0 hq17.symm hl; have hbhl17 := hl17; unfold LX at hbhl17
          by_cases hq18 : r68 = true
          · simp only [if_pos hq18] at h
            obtain ⟨⟨r75, I76, J77⟩, hq19⟩ : ∃ q, q = fX10_readEnd (I69, J70) := ⟨_, rfl⟩
            rw [← hq19] at h; try simp only at h
            have hl19 : LX I76 := okX10_readEnd hq19.symm hl17; have hbhl19 := hl19; unfold LX at hbhl19
            by_cases hq20 : r75 = true
            · simp only [if_pos hq20] at h
              simp only [Prod.mk.injEq] at h
              obtain ⟨-, hI, hJ⟩ := h
              rw [← hI]
              exact hl19
            · simp only [if_neg hq20] at h
              simp only [Prod.mk.injEq] at h
              obtain ⟨-, hI, hJ⟩ := h
              rw [← hI]
              exact hl19
          · simp only [if_neg hq18] at h
            simp only [Prod.mk.injEq] at h
            obtain ⟨-, hI, hJ⟩ := h
            rw [← hI]
            exact hl17
        · simp only [if_neg hq16] at h
          by_cases hq21 : gi I 57 7 = 2 ∧ gj J 57 12 = wt 6
          · simp only [if_pos hq21] at h
            obtain ⟨⟨r53, I54, J55⟩, hq22⟩ : ∃ q, q = fX10_readOnce1 (I, J) := ⟨_, rfl⟩
            rw [← hq22] at h; try simp only at h
            have hl22 : LX I54 := okX10_readOnce1 hq22.symm hl; have hbhl22 := hl22; unfold LX at hbhl22
            by_cases hq23 : r53 = true
            · simp only [if_pos hq23] at h
              obtain ⟨⟨r60, I61, J62⟩, hq24⟩ : ∃ q, q = fX10_readEnd (I54, J55) := ⟨_, rfl⟩
              rw [← hq24] at h; try simp only at h
              have hl24 : LX I61 := okX10_readEnd hq24.symm hl22; have hbhl24 := hl24; unfold LX at hbhl24
              by_cases hq25 : r60 = true
              · simp only [if_pos hq25] at h
                simp only [Prod.mk.injEq] at h
                obtain ⟨-, hI, hJ⟩ := h
                rw [← hI]
                exact hl24
              · simp only [if_neg hq25] at h
                simp only [Prod.mk.injEq] at h
                obtain ⟨-, hI, hJ⟩ := h
                rw [← hI]
                exact hl24
            · simp only [if_neg hq23] at h
              simp only [Prod.mk.injEq] at h
              obtain ⟨-, hI, hJ⟩ := h
              rw [← hI]
              exact hl22
          · simp only [if_neg hq21] at h
            by_cases hq26 : gi I 57 7 = 2 ∧ gj J 57 12 = wt 7
            · simp only [if_pos hq26] at h
              obtain ⟨⟨r38, I39, J40⟩, hq27⟩ : ∃ q, q = fX10_readOnce2 (I, J) := ⟨_, rfl⟩
              rw [← hq27] at h; try simp only at h
              have hl27 : LX I39 := okX10_readOnce2 hq27.symm hl; have hbhl27 := hl27; unfold LX at hbhl27
              by_cases hq28 : r38 = true
              · simp only [if_pos hq28] at h
                obtain ⟨⟨r45, I46, J47⟩, hq29⟩ : ∃ q, q = fX10_readEnd (I39, J40) := ⟨_, rfl⟩
                rw [← hq29] at h; try simp only at h
                have hl29 : LX I46 := okX10_readEnd hq29.symm hl27; have hbhl29 := hl29; unfold LX at hbhl29
                by_cases hq30 : r45 = true
                · simp only [if_pos hq30] at h
                  simp only [Prod.mk.injEq] at h
                  obtain ⟨-, hI, hJ⟩ := h
                  rw [← hI]
                  exact hl29
                · simp only [if_neg hq30] at h
                  simp only [Prod.mk.injEq] at h
                  obtain ⟨-, hI, hJ⟩ := h
                  rw [← hI]
                  exact hl29
              · simp only [if_neg hq28] at h
                simp only [Prod.mk.injEq] at h
                obtain ⟨-, hI, hJ⟩ := h
                rw [← hI]
                exact hl27
            · simp only [if_neg hq26] at h
              by_cases hq31 : gi I 57 7 = 2 ∧ gj J 57 12 = wt 8
              · simp only [if_pos hq31] at h
                obtain ⟨⟨r23, I24, J25⟩, hq32⟩ : ∃ q, q = fX10_readOnce3 (I, J) := ⟨_, rfl⟩
                rw [← hq32] at h; try simp only at h
                have hl32 : LX I24 := okX10_readOnce3 hq32.symm hl; have hbhl32 := hl32; unfold LX at hbhl32
                by_cases hq33 : r23 = true
                · simp only [if_pos hq33] at h
                  obtain ⟨⟨r30, I31, J32⟩, hq34⟩ : ∃ q, q = fX10_readEnd (I24, J25) := ⟨_, rfl⟩
                  rw [← hq34] at h; try simp only at h
                  have hl34 : LX I31 := okX10_readEnd hq34.symm hl32; have hbhl34 := hl34; unfold LX at hbhl34
                  by_cases hq35 : r30 = true
                  · simp only [if_pos hq35] at h
                    simp only [Prod.mk.injEq] at h
                    obtain ⟨-, hI, hJ⟩ := h
                    rw [← hI]
                    exact hl34
                  · simp only [if_neg hq35] at h
                    simp only [Prod.mk.injEq] at h
                    obtain ⟨-, hI, hJ⟩ := h
                    rw [← hI]
                    exact hl34
                · simp only [if_neg hq33] at h
                  simp only [Prod.mk.injEq] at h
                  obtain ⟨-, hI, hJ⟩ := h
                  rw [← hI]
                  exact hl32
              · simp only [if_neg hq31] at h
                obtain ⟨⟨r8, I9, J10⟩, hq36⟩ : ∃ q, q = fX10_bad 1 (I, J) := ⟨_, rfl⟩
                rw [← hq36] at h; try simp only at h
                have hl36 : LX I9 := okX10_bad hq36.symm hl; have hbhl36 := hl36; unfold LX at hbhl36
                by_cases hq37 : r8 = true
                · simp only [if_pos hq37] at h
                  obtain ⟨⟨r15, I16, J17⟩, hq38⟩ : ∃ q, q = fX10_readEnd (I9, J10) := ⟨_, rfl⟩
                  rw [← hq38] at h; try simp only at h
                  have hl38 : LX I16 := okX10_readEnd hq38.symm hl36; have hbhl38 := hl38; unfold LX at hbhl38
                  by_cases hq39 : r15 = true
                  · simp only [if_pos hq39] at h
                    simp only [Prod.mk.injEq] at h
                    obtain ⟨-, hI, hJ⟩ := h
                    rw [← hI]
                    exact hl38
                  · simp only [if_neg hq39] at h
                    simp only [Prod.mk.injEq] at h
                    obtain ⟨-, hI, hJ⟩ := h
                    rw [← hI]
                    exact hl38
                · simp only [if_neg hq37] at h
                  simp only [Prod.mk.injEq] at h
                  obtain ⟨-, hI, hJ⟩ := h
                  rw [← hI]
                  exact hl36
set_option maxHeartbeats 4000000 in
set_option maxRecDepth 100000 in
theorem qX10_readLine {G : Gx} {σ : State} (hC : Cz G σ) {sh : Sh} {I : Mi} {J : Mj}  (hS : St sh) (hl : LX I) : Ce G σ 6 yX10_readLine cX10_readLine 2 (some .boolean) [.ref (G.2.2 + 57)] (sh, I, J) 0 0 (some (.int (iv (b2 ((fX10_readLine (I, J)).1 = true))))) (sh, (fX10_readLine (I, J)).2.1, (fX10_readLine (I, J)).2.2) := by
  refine Ct.of hC (by decide +kernel) (Nat.le_of_ble_eq_true rfl) ?_
  intro p l e R s m args below meth c C
  show Jz G σ p l e R s m args below meth c 2 0 0 (Qx (some (.int (iv (b2 ((fX10_readLine (I, J)).1 = true))))) (sh, (fX10_readLine (I, J)).2.1, (fX10_readLine (I, J)).2.2)) (sh, I, J) 0 0 0 [(0, .ref (G.2.2 + 57))] []
  have hb0 := hl
  unfold LX at hb0
  refine z_aload_n C dX10_readLine_0 0 rfl ?_
  refine z_iconst C dX10_readLine_1 ?_
  refine z_cVi (st := []) C dX10_readLine_2 mX10_202 (kd_57 hS) (qX10_isWord hC 0 hS (by omega)) rfl rfl (Nat.le_of_ble_eq_true rfl) (by decide) ?_
  refine z_if_eq_b 16 C dX10_readLine_5 (by decide) (fun h1 => ?_) (fun h1 => ?_)
  ·
    refine z_aload_n C dX10_readLine_16 0 rfl ?_
    refine z_iconst C dX10_readLine_17 ?_
    refine z_cVi (st := []) C dX10_readLine_18 mX10_202 (kd_57 hS) (qX10_isWord hC 3 hS (by omega)) rfl rfl (Nat.le_of_ble_eq_true rfl) (by decide) ?_
    refine z_if_eq_b 32 C dX10_readLine_21 (by decide) (fun h2 => ?_) (fun h2 => ?_)
    ·
      refine z_aload_n C dX10_readLine_32 0 rfl ?_
      refine z_iconst C dX10_readLine_33 ?_
      refine z_cVi (st := []) C dX10_readLine_34 mX10_202 (kd_57 hS) (qX10_isWord hC 4 hS (by omega)) rfl rfl (Nat.le_of_ble_eq_true rfl) (by decide) ?_
      refine z_if_eq_b 48 C dX10_readLine_37 (by decide) (fun h3 => ?_) (fun h3 => ?_)
      ·
        refine z_aload_n C dX10_readLine_48 0 rfl ?_
        refine z_iconst C dX10_readLine_49 ?_
        refine z_cVi (st := []) C dX10_readLine_50 mX10_202 (kd_57 hS) (qX10_isWord hC 5 hS (by omega)) rfl rfl (Nat.le_of_ble_eq_true rfl) (by decide) ?_
        refine z_if_eq_b 69 C dX10_readLine_53 (by decide) (fun h4 => ?_) (fun h4 => ?_)
        ·
          refine z_aload_n C dX10_readLine_69 0 rfl ?_
          refine z_bipush C dX10_readLine_70 (by decide) ?_
          refine z_cVi (st := []) C dX10_readLine_72 mX10_202 (kd_57 hS) (qX10_isWord hC 6 hS (by omega)) rfl rfl (Nat.le_of_ble_eq_true rfl) (by decide) ?_
          refine z_if_eq_b 92 C dX10_readLine_75 (by decide) (fun h5 => ?_) (fun h5 => ?_)
          ·
            refine z_aload_n C dX10_readLine_92 0 rfl ?_
            refine z_bipush C dX10_readLine_93 (by decide) ?_
            refine z_cVi (st := []) C dX10_readLine_95 mX10_202 (kd_57 hS) (qX10_isWord hC 7 hS (by omega)) rfl rfl (Nat.le_of_ble_eq_true rfl) (by decide) ?_
            refine z_if_eq_b 115 C dX10_readLine_98 (by decide) (fun h6 => ?_) (fun h6 => ?_)
            ·
              refine z_aload_n C dX10_readLine_115 0 rfl ?_
              refine z_bipush C dX10_readLine_116 (by decide) ?_
              refine z_cVi (st := []) C dX10_readLine_118 mX10_202 (kd_57 hS) (qX10_isWord hC 8 hS (by omega)) rfl rfl (Nat.le_of_ble_eq_true rfl) (by decide) ?_
              refine z_if_eq_b 137 C dX10_readLine_121 (by decide) (fun h7 => ?_) (fun h7 => ?_)
              ·
                refine z_aload_n C dX10_readLine_137 0 rfl ?_
                refine z_iconst C dX10_readLine_138 ?_
                refine z_cVibF (st := []) (F := fX10_bad 1 (I, J)) C dX10_readLine_139 mX10_151 (kd_57 hS) (qX10_bad hC 1 hS (by omega)) rfl rfl (Nat.le_of_ble_eq_true rfl) (by decide) (fun r8 I9 J10 hT11 => ?_)
                have hl12 : LX I9 := okX10_bad hT11 hl; have hbhl12 := hl12; unfold LX at hbhl12
                refine z_istore_n (lv' := [(0, .ref (G.2.2 + 57)), (1, .int (iv (b2 (r8 = true))))]) C dX10_readLine_142 rfl (by decide) [1, 0] rfl ?_
                refine z_iload_n C dX10_readLine_143 1 rfl ?_
                refine z_if_eq_b 158 C dX10_readLine_144 (by decide) (fun h13 => ?_) (fun h13 => ?_)
                ·
                  refine z_iconst C dX10_readLine_158 ?_
                  have hf14 : fX10_readLine (I, J) = (false, I9, J10) := (by simp only [fX10_readLine, if_neg h1, if_neg h2, if_neg h3, if_neg h4, if_neg h5, if_neg h6, if_neg h7, hT11, if_neg h13])
                  exact z_zreturnx C dX10_readLine_159 rfl (by rw [hf14]; rfl) (by rw [hf14])
                ·
                  refine z_aload_n C dX10_readLine_147 0 rfl ?_
                  refine z_cVibF (st := []) (F := fX10_readEnd (I9, J10)) C dX10_readLine_148 mX10_231 (kd_57 hS) (qX10_readEnd hC  hS hl12) rfl rfl (Nat.le_of_ble_eq_true rfl) (by decide) (fun r15 I16 J17 hT18 => ?_)
                  have hl19 : LX I16 := okX10_readEnd hT18 hl12; have hbhl19 := hl19; unfold LX at hbhl19
                  refine z_if_eq_b 158 C dX10_readLine_151 (by decide) (fun h20 => ?_) (fun h20 => ?_)
                  ·
                    refine z_iconst C dX10_readLine_158 ?_
                    have hf21 : fX10_readLine (I, J) = (false, I16, J17) := (by simp only [fX10_readLine, if_neg h1, if_neg h2, if_neg h3, if_neg h4, if_neg h5, if_neg h6, if_neg h7, hT11, if_pos h13, hT18, if_neg h20])
                    exact z_zreturnx C dX10_readLine_159 rfl (by rw [hf21]; rfl) (by rw [hf21])
                  ·
                    refine z_iconst C dX10_readLine_154 ?_
                    refine z_goto 159 C dX10_readLine_155 (by decide) ?_
                    have hf22 : fX10_readLine (I, J) = (true, I16, J17) := (by simp only [fX10_readLine, if_neg h1, if_neg h2, if_neg h3, if_neg h4, if_neg h5, if_neg h6, if_neg h7, hT11, if_pos h13, hT18, if_pos h20])
                    exact z_zreturnx C dX10_readLine_159 rfl (by rw [hf22]; rfl) (by rw [hf22])
              ·
                refine z_aload_n C dX10_readLine_124 0 rfl ?_
                refine z_iconst C dX10_readLine_125 ?_
                refine z_bipush C dX10_readLine_126 (by decide) ?_
                refine z_iconst C dX10_readLine_128 ?_
                refine z_bipush C dX10_readLine_129 (by decide) ?_
                refine z_cVibF (st := []) (F := fX10_readOnce3 (I, J)) C dX10_readLine_131 mX10_227 (kd_57 hS) (qX10_readOnce3 hC  hS hl) rfl rfl (Nat.le_of_ble_eq_true rfl) (by decide) (fun r23 I24 J25 hT26 => ?_)
                have hl27 : LX I24 := okX10_readOnce3 hT26 hl; have hbhl27 := hl27; unfold LX at hbhl27
                refine z_goto 142 C dX10_readLine_134 (by decide) ?_
                refine z_istore_n (lv' := [(0, .ref (G.2.2 + 57)), (1, .int (iv (b2 (r23 = true))))]) C dX10_readLine_142 rfl (by decide) [1, 0] rfl ?_
                refine z_iload_n C dX10_readLine_143 1 rfl ?_
                refine z_if_eq_b 158 C dX10_readLine_144 (by decide) (fun h28 => ?_) (fun h28 => ?_)
                ·
                  refine z_iconst C dX10_readLine_158 ?_
                  have hf29 : fX10_readLine (I, J) = (false, I24, J25) := (by simp only [fX10_readLine, if_neg h1, if_neg h2, if_neg h3, if_neg h4, if_neg h5, if_neg h6, if_pos h7, hT26, if_neg h28])
                  exact z_zreturnx C dX10_readLine_159 rfl (by rw [hf29]; rfl) (by rw [hf29])
                ·
                  refine z_aload_n C dX10_readLine_147 0 rfl ?_
                  refine z_cVibF (st := []) (F := fX10_readEnd (I24, J25)) C dX10_readLine_148 mX10_231 (kd_57 hS) (qX10_readEnd hC  hS hl27) rfl rfl (Nat.le_of_ble_eq_true rfl) (by decide) (fun r30 I31 J32 hT33 => ?_)
                  have hl34 : LX I31 := okX10_readEnd hT33 hl27; have hbhl34 := hl34; unfold LX at hbhl34
                  refine z_if_eq_b 158 C dX10_readLine_151 (by decide) (fun h35 => ?_) (fun h35 => ?_)
                  ·
                    refine z_iconst C dX10_readLine_158 ?_
                    have hf36 : fX10_readLine (I, J) = (false, I31, J32) := (by simp only [fX10_readLine, if_neg h1, if_neg h2, if_neg h3, if_neg h4, if_neg h5, if_neg h6, if_pos h7, hT26, if_pos h28, hT33, if_neg h35])
                    exact z_zreturnx C dX10_readLine_159 rfl (by rw [hf36]; rfl) (by rw [hf36])
                  ·
                    refine z_iconst C dX10_readLine_154 ?_
                    refine z_goto 159 C dX10_readLine_155 (by decide) ?_
                    have hf37 : fX10_readLine (I, J) = (true, I31, J32) := (by simp only [fX10_readLine, if_neg h1, if_neg h2, if_neg h3, if_neg h4, if_neg h5, if_neg h6, if_pos h7, hT26, if_pos h28, hT33, if_pos h35])
                    exact z_zreturnx C dX10_readLine_159 rfl (by rw [hf37]; rfl) (by rw [hf37])
            ·
              refine z_aload_n C dX10_readLine_101 0 rfl ?_
              refine z_iconst C dX10_readLine_102 ?_
              refine z_iconst C dX10_readLine_103 ?_
              refine z_iconst C dX10_readLine_104 ?_
              refine z_sipush C dX10_readLine_105 (by decide) ?_
              refine z_cVibF (st := []) (F := fX10_readOnce2 (I, J)) C dX10_readLine_108 mX10_227 (kd_57 hS) (qX10_readOnce2 hC  hS hl) rfl rfl (Nat.le_of_ble_eq_true rfl) (by decide) (fun r38 I39 J40 hT41 => ?_)
              have hl42 : LX I39 := okX10_readOnce2 hT41 hl; have hbhl42 := hl42; unfold LX at hbhl42
              refine z_istore_n (lv' := [(0, .ref (G.2.2 + 57)), (1, .int (iv (b2 (r38 = true))))]) C dX10_readLine_111 rfl (by decide) [1, 0] rfl ?_
              refine z_goto 143 C dX10_readLine_112 (by decide) ?_
              refine z_iload_n C dX10_readLine_143 1 rfl ?_
              refine z_if_eq_b 158 C dX10_readLine_144 (by decide) (fun h43 => ?_) (fun h43 => ?_)
              ·
                refine z_iconst C dX10_readLine_158 ?_
                have hf44 : fX10_readLine (I, J) = (false, I39, J40) := (by simp only [fX10_readLine, if_neg h1, if_neg h2, if_neg h3, if_neg h4, if_neg h5, if_pos h6, hT41, if_neg h43])
                exact z_zreturnx C dX10_readLine_159 rfl (by rw [hf44]; rfl) (by rw [hf44])
              ·
                refine z_aload_n C dX10_readLine_147 0 rfl ?_
                refine z_cVibF (st := []) (F := fX10_readEnd (I39, J40)) C dX10_readLine_148 mX10_231 (kd_57 hS) (qX10_readEnd hC  hS hl42) rfl rfl (Nat.le_of_ble_eq_true rfl) (by decide) (fun r45 I46 J47 hT48 => ?_)
                have hl49 : LX I46 := okX10_readEnd hT48 hl42; have hbhl49 := hl49; unfold LX at hbhl49
                refine z_if_eq_b 158 C dX10_readLine_151 (by decide) (fun h50 => ?_) (fun h50 => ?_)
                ·
                  refine z_iconst C dX10_readLine_158 ?_
                  have hf51 : fX10_readLine (I, J) = (false, I46, J47) := (by simp only [fX10_readLine, if_neg h1, if_neg h2, if_neg h3, if_neg h4, if_neg h5, if_pos h6, hT41, if_pos h43, hT48, if_neg h50])
                  exact z_zreturnx C dX10_readLine_159 rfl (by rw [hf51]; rfl) (by rw [hf51])
                ·
                  refine z_iconst C dX10_readLine_154 ?_
                  refine z_goto 159 C dX10_readLine_155 (by decide) ?_
                  have hf52 : fX10_readLine (I, J) = (true, I46, J47) := (by simp only [fX10_readLine, if_neg h1, if_neg h2, if_neg h3, if_neg h4, if_neg h5, if_pos h6, hT41, if_pos h43, hT48, if_pos h50])
                  exact z_zreturnx C dX10_readLine_159 rfl (by rw [hf52]; rfl) (by rw [hf52])
          ·
            refine z_aload_n C dX10_readLine_78 0 rfl ?_
            refine z_iconst C dX10_readLine_79 ?_
            refine z_iconst C dX10_readLine_80 ?_
            refine z_iconst C dX10_readLine_81 ?_
            refine z_sipush C dX10_readLine_82 (by decide) ?_
            refine z_cVibF (st := []) (F := fX10_readOnce1 (I, J)) C dX10_readLine_85 mX10_227 (kd_57 hS) (qX10_readOnce1 hC  hS hl) rfl rfl (Nat.le_of_ble_eq_true rfl) (by decide) (fun r53 I54 J55 hT56 => ?_)
            have hl57 : LX I54 := okX10_readOnce1 hT56 hl; have hbhl57 := hl57; unfold LX at hbhl57
            refine z_istore_n (lv' := [(0, .ref (G.2.2 + 57)), (1, .int (iv (b2 (r53 = true))))]) C dX10_readLine_88 rfl (by decide) [1, 0] rfl ?_
            refine z_goto 143 C dX10_readLine_89 (by decide) ?_
            refine z_iload_n C dX10_readLine_143 1 rfl ?_
            refine z_if_eq_b 158 C dX10_readLine_144 (by decide) (fun h58 => ?_) (fun h58 => ?_)
            ·
              refine z_iconst C dX10_readLine_158 ?_
              have hf59 : fX10_readLine (I, J) = (false, I54, J55) := (by simp only [fX10_readLine, if_neg h1, if_neg h2, if_neg h3, if_neg h4, if_pos h5, hT56, if_neg h58])
              exact z_zreturnx C dX10_readLine_159 rfl (by rw [hf59]; rfl) (by rw [hf59])
            ·
              refine z_aload_n C dX10_readLine_147 0 rfl ?_
              refine z_cVibF (st := []) (F := fX10_readEnd (I54, J55)) C dX10_readLine_148 mX10_231 (kd_57 hS) (qX10_readEnd hC  hS hl57) rfl rfl (Nat.le_of_ble_eq_true rfl) (by decide) (fun r60 I61 J62 hT63 => ?_)
              have hl64 : LX I61 := okX10_readEnd hT63 hl57; have hbhl64 := hl64; unfold LX at hbhl64
              refine z_if_eq_b 158 C dX10_readLine_151 (by decide) (fun h65 => ?_) (fun h65 => ?_)
              ·
                refine z_iconst C dX10_readLine_158 ?_
                have hf66 : fX10_readLine (I, J) = (false, I61, J62) := (by simp only [fX10_readLine, if_neg h1, if_neg h2, if_neg h3, if_neg h4, if_pos h5, hT56, if_pos h58, hT63, if_neg h65])
                exact z_zreturnx C dX10_readLine_159 rfl (by rw [hf66]; rfl) (by rw [hf66])
              ·
                refine z_iconst C dX10_readLine_154 ?_
                refine z_goto 159 C dX10_readLine_155 (by decide) ?_
                have hf67 : fX10_readLine (I, J) = (true, I61, J62) := (by simp only [fX10_readLine, if_neg h1, if_neg h2, if_neg h3, if_neg h4, if_pos h5, hT56, if_pos h58, hT63, if_pos h65])
                exact z_zreturnx C dX10_readLine_159 rfl (by rw [hf67]; rfl) (by rw [hf67])
        ·
          refine z_aload_n C dX10_readLine_56 0 rfl ?_
          refine z_iconst C dX10_readLine_57 ?_
          refine z_iconst C dX10_readLine_58 ?_
          refine z_iconst C dX10_readLine_59 ?_
          refine z_bipush C dX10_readLine_60 (by decide) ?_
          refine z_cVibF (st := []) (F := fX10_readOnce0 (I, J)) C dX10_readLine_62 mX10_227 (kd_57 hS) (qX10_readOnce0 hC  hS hl) rfl rfl (Nat.le_of_ble_eq_true rfl) (by decide) (fun r68 I69 J70 hT71 => ?_)
          have hl72 : LX I69 := okX10_readOnce0 hT71 hl; have hbhl72 := hl72; unfold LX at hbhl72
          refine z_istore_n (lv' := [(0, .ref (G.2.2 + 57)), (1, .int (iv (b2 (r68 = true))))]) C dX10_readLine_65 rfl (by decide) [1, 0] rfl ?_
          refine z_goto 143 C dX10_readLine_66 (by decide) ?_
          refine z_iload_n C dX10_readLine_143 1 rfl ?_
          refine z_if_eq_b 158 C dX10_readLine_144 (by decide) (fun h73 => ?_) (fun h73 => ?_)
          ·
            refine z_iconst C dX10_readLine_158 ?_
            have hf74 : fX10_readLine (I, J) = (false, I69, J70) := (by simp only [fX10_readLine, if_neg h1, if_neg h2, if_neg h3, if_pos h4, hT71, if_neg h73])
            exact z_zreturnx C dX10_readLine_159 rfl (by rw [hf74]; rfl) (by rw [hf74])
          ·
            refine z_aload_n C dX10_readLine_147 0 rfl ?_
            refine z_cVibF (st := []) (F := fX10_readEnd (I69, J70)) C dX10_readLine_148 mX10_231 (kd_57 hS) (qX10_readEnd hC  hS hl72) rfl rfl (Nat.le_of_ble_eq_true rfl) (by decide) (fun r75 I76 J77 hT78 => ?_)
            have hl79 : LX I76 := okX10_readEnd hT78 hl72; have hbhl79 := hl79; unfold LX at hbhl79
            refine z_if_eq_b 158 C dX10_readLine_151 (by decide) (fun h80 => ?_) (fun h80 => ?_)
            ·
              refine z_iconst C dX10_readLine_158 ?_
              have hf81 : fX10_readLine (I, J) = (false, I76, J77) := (by simp only [fX10_readLine, if_neg h1, if_neg h2, if_neg h3, if_pos h4, hT71, if_pos h73, hT78, if_neg h80])
              exact z_zreturnx C dX10_readLine_159 rfl (by rw [hf81]; rfl) (by rw [hf81])
            ·
              refine z_iconst C dX10_readLine_154 ?_
              refine z_goto 159 C dX10_readLine_155 (by decide) ?_
              have hf82 : fX10_readLine (I, J) = (true, I76, J77) := (by simp only [fX10_readLine, if_neg h1, if_neg h2, if_neg h3, if_pos h4, hT71, if_pos h73, hT78, if_pos h80])
              exact z_zreturnx C dX10_readLine_159 rfl (by rw [hf82]; rfl) (by rw [hf82])
      ·
        refine z_aload_n C dX10_readLine_40 0 rfl ?_
        refine z_cVibF (st := []) (F := fX10_readTakes (I, J)) C dX10_readLine_41 mX10_224 (kd_57 hS) (qX10_readTakes hC  hS hl) rfl rfl (Nat.le_of_ble_eq_true rfl) (by decide) (fun r83 I84 J85 hT86 => ?_)
        have hl87 : LX I84 := okX10_readTakes hT86 hl; have hbhl87 := hl87; unfold LX at hbhl87
        refine z_istore_n (lv' := [(0, .ref (G.2.2 + 57)), (1, .int (iv (b2 (r83 = true))))]) C dX10_readLine_44 rfl (by decide) [1, 0] rfl ?_
        refine z_goto 143 C dX10_readLine_45 (by decide) ?_
        refine z_iload_n C dX10_readLine_143 1 rfl ?_
        refine z_if_eq_b 158 C dX10_readLine_144 (by decide) (fun h88 => ?_) (fun h88 => ?_)
        ·
          refine z_iconst C dX10_readLine_158 ?_
          have hf89 : fX10_readLine (I, J) = (false, I84, J85) := (by simp only [fX10_readLine, if_neg h1, if_neg h2, if_pos h3, hT86, if_neg h88])
          exact z_zreturnx C dX10_readLine_159 rfl (by rw [hf89]; rfl) (by rw [hf89])
        ·
          refine z_aload_n C dX10_readLine_147 0 rfl ?_
          refine z_cVibF (st := []) (F := fX10_readEnd (I84, J85)) C dX10_readLine_148 mX10_231 (kd_57 hS) (qX10_readEnd hC  hS hl87) rfl rfl (Nat.le_of_ble_eq_true rfl) (by decide) (fun r90 I91 J92 hT93 => ?_)
          have hl94 : LX I91 := okX10_readEnd hT93 hl87; have hbhl94 := hl94; unfold LX at hbhl94
          refine z_if_eq_b 158 C dX10_readLine_151 (by decide) (fun h95 => ?_) (fun h95 => ?_)
          ·
            refine z_iconst C dX10_readLine_158 ?_
            have hf96 : fX10_readLine (I, J) = (false, I91, J92) := (by simp only [fX10_readLine, if_neg h1, if_neg h2, if_pos h3, hT86, if_pos h88, hT93, if_neg h95])
            exact z_zreturnx C dX10_readLine_159 rfl (by rw [hf96]; rfl) (by rw [hf96])
          ·
            refine z_iconst C dX10_readLine_154 ?_
            refine z_goto 159 C dX10_readLine_155 (by decide) ?_
            have hf97 : fX10_readLine (I, J) = (true, I91, J92) := (by simp only [fX10_readLine, if_neg h1, if_neg h2, if_pos h3, hT86, if_pos h88, hT93, if_pos h95])
            exact z_zreturnx C dX10_readLine_159 rfl (by rw [hf97]; rfl) (by rw [hf97])
    ·
      refine z_aload_n C dX10_readLine_24 0 rfl ?_
      refine z_cVibF (st := []) (F := fX10_readMint (I, J)) C dX10_readLine_25 mX10_221 (kd_57 hS) (qX10_readMint hC  hS hl) rfl rfl (Nat.le_of_ble_eq_true rfl) (by decide) (fun r98 I99 J100 hT101 => ?_)
      have hl102 : LX I99 := okX10_readMint hT101 hl; have hbhl102 := hl102; unfold LX at hbhl102
      refine z_istore_n (lv' := [(0, .ref (G.2.2 + 57)), (1, .int (iv (b2 (r98 = true))))]) C dX10_readLine_28 rfl (by decide) [1, 0] rfl ?_
      refine z_goto 143 C dX10_readLine_29 (by decide) ?_
      refine z_iload_n C dX10_readLine_143 1 rfl ?_
      refine z_if_eq_b 158 C dX10_readLine_144 (by decide) (fun h103 => ?_) (fun h103 => ?_)
      ·
        refine z_iconst C dX10_readLine_158 ?_
        have hf104 : fX10_readLine (I, J) = (false, I99, J100) := (by simp only [fX10_readLine, if_neg h1, if_pos h2, hT101, if_neg h103])
        exact z_zreturnx C dX10_readLine_159 rfl (by rw [hf104]; rfl) (by rw [hf104])
      ·
        refine z_aload_n C dX10_readLine_147 0 rfl ?_
        refine z_cVibF (st := []) (F := fX10_readEnd (I99, J100)) C dX10_readLine_148 mX10_231 (kd_57 hS) (qX10_readEnd hC  hS hl102) rfl rfl (Nat.le_of_ble_eq_true rfl) (by decide) (fun r105 I106 J107 hT108 => ?_)
        have hl109 : LX I106 := okX10_readEnd hT108 hl102; have hbhl109 := hl109; unfold LX at hbhl109
        refine z_if_eq_b 158 C dX10_readLine_151 (by decide) (fun h110 => ?_) (fun h110 => ?_)
        ·
          refine z_iconst C dX10_readLine_158 ?_
          have hf111 : fX10_readLine (I, J) = (false, I106, J107) := (by simp only [fX10_readLine, if_neg h1, if_pos h2, hT101, if_pos h103, hT108, if_neg h110])
          exact z_zreturnx C dX10_readLine_159 rfl (by rw [hf111]; rfl) (by rw [hf111])
        ·
          refine z_iconst C dX10_readLine_154 ?_
          refine z_goto 159 C dX10_readLine_155 (by decide) ?_
          have hf112 : fX10_readLine (I, J) = (true, I106, J107) := (by simp only [fX10_readLine, if_neg h1, if_pos h2, hT101, if_pos h103, hT108, if_pos h110])
          exact z_zreturnx C dX10_readLine_159 rfl (by rw [hf112]; rfl) (by rw [hf112])
  ·
    refine z_aload_n C dX10_readLine_8 0 rfl ?_
    refine z_cVibF (st := []) (F := fX10_readWho (I, J)) C dX10_readLine_9 mX10_218 (kd_57 hS) (qX10_readWho hC  hS hl) rfl rfl (Nat.le_of_ble_eq_true rfl) (by decide) (fun r113 I114 J115 hT116 => ?_)
    have hl117 : LX I114 := okX10_readWho hT116 hl; have hbhl117 := hl117; unfold LX at hbhl117
    refine z_istore_n (lv' := [(0, .ref (G.2.2 + 57)), (1, .int (iv (b2 (r113 = true))))]) C dX10_readLine_12 rfl (by decide) [1, 0] rfl ?_
    refine z_goto 143 C dX10_readLine_13 (by decide) ?_
    refine z_iload_n C dX10_readLine_143 1 rfl ?_
    refine z_if_eq_b 158 C dX10_readLine_144 (by decide) (fun h118 => ?_) (fun h118 => ?_)
    ·
      refine z_iconst C dX10_readLine_158 ?_
      have hf119 : fX10_readLine (I, J) = (false, I114, J115) := (by simp only [fX10_readLine, if_pos h1, hT116, if_neg h118])
      exact z_zreturnx C dX10_readLine_159 rfl (by rw [hf119]; rfl) (by rw [hf119])
    ·
      refine z_aload_n C dX10_readLine_147 0 rfl ?_
      refine z_cVibF (st := []) (F := fX10_readEnd (I114, J115)) C dX10_readLine_148 mX10_231 (kd_57 hS) (qX10_readEnd hC  hS hl117) rfl rfl (Nat.le_of_ble_eq_true rfl) (by decide) (fun r120 I121 J122 hT123 => ?_)
      have hl124 : LX I121 := okX10_readEnd hT123 hl117; have hbhl124 := hl124; unfold LX at hbhl124
      refine z_if_eq_b 158 C dX10_readLine_151 (by decide) (fun h125 => ?_) (fun h125 => ?_)
      ·
        refine z_iconst C dX10_readLine_158 ?_
        have hf126 : fX10_readLine (I, J) = (false, I121, J122) := (by simp only [fX10_readLine, if_pos h1, hT116, if_pos h118, hT123, if_neg h125])
        exact z_zreturnx C dX10_readLine_159 rfl (by rw [hf126]; rfl) (by rw [hf126])
      ·
        refine z_iconst C dX10_readLine_154 ?_
        refine z_goto 159 C dX10_readLine_155 (by decide) ?_
        have hf127 : fX10_readLine (I, J) = (true, I121, J122) := (by simp only [fX10_readLine, if_pos h1, hT116, if_pos h118, hT123, if_pos h125])
        exact z_zreturnx C dX10_readLine_159 rfl (by rw [hf127]; rfl) (by rw [hf127])

