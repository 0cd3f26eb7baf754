noncomputable def fX10_dies_107 (r1 : Int) (I2 : Mi) (J3 : Mj) (r11 : Int) (I12 : Mi) (J13 : Mj) (n0 : Int) (k : Int) (I19 : Mi) (J19 : Mj) (w : Int) (t : Int) (S : Mi × Mj) : ((Int × Int) ⊕ Int) × Mi × Mj :=
  match S with
  | (I, J) =>
    if (gi I19 59 110) = w then
      match fX10_giveBack (I19, J19) with
      | (r25, I26, J27) =>
        (.inr (n0), I26, J27)
    else
      if (gi I19 59 111) = w then
        match fX10_giveBack (I19, J19) with
        | (r32, I33, J34) =>
          (.inr (n0), I33, J34)
      else
        (.inr (n0), I19, J19)
theorem frX10_dies_107 {r1 : Int} {I2 : Mi} {J3 : Mj} {r11 : Int} {I12 : Mi} {J13 : Mj} {n0 : Int} {k : Int} {I19 : Mi} {J19 : Mj} {w : Int} {t : Int} {S : Mi × Mj} {r0 : ((Int × Int) ⊕ Int)} {I0 : Mi} {J0 : Mj} (h : fX10_dies_107 r1 I2 J3 r11 I12 J13 n0 k I19 J19 w t S = (r0, I0, J0)) (aq kq : Nat) (haq : aq ≠ 59 ∧ aq ≠ 62 ∧ ¬ (aq = 57 ∧ kq = 0) ∧ ¬ (aq = 57 ∧ kq = 22) ∧ ¬ (aq = 57 ∧ kq = 23)) : I0 aq kq = I19 aq kq := by
  obtain ⟨I, J⟩ := S
  unfold fX10_dies_107 at h
  try simp only at h
  by_cases hq1 : (gi I19 59 110) = w
  · simp only [if_pos hq1] at h
    obtain ⟨⟨r25, I26, J27⟩, hq2⟩ : ∃ q, q = fX10_giveBack (I19, J19) := ⟨_, rfl⟩
    rw [← hq2] at h; try simp only at h
    simp only [Prod.mk.injEq] at h
    obtain ⟨-, hI, hJ⟩ := h
    exact (congrFun (congrFun hI aq) kq).symm.trans (Eq.trans (frX10_giveBack hq2.symm aq kq ⟨(fun q => haq.1 q.1), (fun q => haq.1 q.1)⟩) rfl)
  · simp only [if_neg hq1] at h
    by_cases hq3 : (gi I19 59 111) = w
    · simp only [if_pos hq3] at h
      obtain ⟨⟨r32, I33, J34⟩, hq4⟩ : ∃ q, q = fX10_giveBack (I19, J19) := ⟨_, rfl⟩
      rw [← hq4] at h; try simp only at h
      simp only [Prod.mk.injEq] at h
      obtain ⟨-, hI, hJ⟩ := h
      exact (congrFun (congrFun hI aq) kq).symm.trans (Eq.trans (frX10_giveBack hq4.symm aq kq ⟨(fun q => haq.1 q.1), (fun q => haq.1 q.1)⟩) rfl)
    · simp only [if_neg hq3] at h
      simp only [Prod.mk.injEq] at h
      obtain ⟨-, hI, hJ⟩ := h
      exact (congrFun (congrFun hI aq) kq).symm.trans rfl
theorem fjX10_dies_107 {r1 : Int} {I2 : Mi} {J3 : Mj} {r11 : Int} {I12 : Mi} {J13 : Mj} {n0 : Int} {k : Int} {I19 : Mi} {J19 : Mj} {w : Int} {t : Int} {S : Mi × Mj} {r0 : ((Int × Int) ⊕ Int)} {I0 : Mi} {J0 : Mj} (h : fX10_dies_107 r1 I2 J3 r11 I12 J13 n0 k I19 J19 w t S = (r0, I0, J0)) (aq kq : Nat) (haq : True) : J0 aq kq = J19 aq kq := by
  obtain ⟨I, J⟩ := S
  unfold fX10_dies_107 at h
  try simp only at h
  by_cases hq1 : (gi I19 59 110) = w
  · simp only [if_pos hq1] at h
    obtain ⟨⟨r25, I26, J27⟩, hq2⟩ : ∃ q, q = fX10_giveBack (I19, J19) := ⟨_, rfl⟩
    rw [← hq2] at h; try simp only at h
    simp only [Prod.mk.injEq] at h
    obtain ⟨-, hI, hJ⟩ := h
    exact (congrFun (congrFun hJ aq) kq).symm.trans (Eq.trans (fjX10_giveBack hq2.symm aq kq trivial) rfl)
  · simp only [if_neg hq1] at h
    by_cases hq3 : (gi I19 59 111) = w
    · simp only [if_pos hq3] at h
      obtain ⟨⟨r32, I33, J34⟩, hq4⟩ : ∃ q, q = fX10_giveBack (I19, J19) := ⟨_, rfl⟩
      rw [← hq4] at h; try simp only at h
      simp only [Prod.mk.injEq] at h
      obtain ⟨-, hI, hJ⟩ := h
      exact (congrFun (congrFun hJ aq) kq).symm.trans (Eq.trans (fjX10_giveBack hq4.symm aq kq trivial) rfl)
    · simp only [if_neg hq3] at h
      simp only [Prod.mk.injEq] at h
      obtain ⟨-, hI, hJ⟩ := h
      exact (congrFun (congrFun hJ aq) kq).symm.trans rfl
noncomputable def fX10_dies_b59 (r1 : Int) (I2 : Mi) (J3 : Mj) (r11 : Int) (I12 : Mi) (J13 : Mj) (w : Int) (t : Int) (S : Mi × Mj) (v : (Int × Int)) (S7 : Mi × Mj) : ((Int × Int) ⊕ Int) × Mi × Mj :=
  match S with
  | (I, J) =>
  match v with
  | (n0, k) =>
  match S7 with
  | (I19, J19) =>
    if (gi I19 59 108) ≤ k then
      fX10_dies_107 r1 I2 J3 r11 I12 J13 n0 k I19 J19 w t (I, J)
    else
      if (gi I19 59 (120 + 32 * k + 1).toNat) = w then
        (.inl (n0 + 1, k + 1), (wi I19 59 (((120 + (32 * k)) + 1).toNat) t), J19)
      else
        (.inl (n0, k + 1), I19, J19)
theorem frX10_dies_b59 {r1 : Int} {I2 : Mi} {J3 : Mj} {r11 : Int} {I12 : Mi} {J13 : Mj} {w : Int} {t : Int} {S : Mi × Mj} {v : (Int × Int)} {S7 : Mi × Mj} {r0 : ((Int × Int) ⊕ Int)} {I0 : Mi} {J0 : Mj} (h : fX10_dies_b59 r1 I2 J3 r11 I12 J13 w t S v S7 = (r0, I0, J0)) (aq kq : Nat) (haq : aq ≠ 59 ∧ aq ≠ 62 ∧ ¬ (aq = 57 ∧ kq = 0) ∧ ¬ (aq = 57 ∧ kq = 22) ∧ ¬ (aq = 57 ∧ kq = 23)) : I0 aq kq = S7.1 aq kq := by
  obtain ⟨I, J⟩ := S
  obtain ⟨I19, J19⟩ := S7
  obtain ⟨n0, k⟩ := v
  unfold fX10_dies_b59 at h
  try simp only at h
  by_cases hq1 : (gi I19 59 108) ≤ k
  · simp only [if_pos hq1] at h
    exact frX10_dies_107 h aq kq haq
  · simp only [if_neg hq1] at h
    by_cases hq2 : (gi I19 59 (120 + 32 * k + 1).toNat) = w
    · simp only [if_pos hq2] at h
      simp only [Prod.mk.injEq] at h
      obtain ⟨-, hI, hJ⟩ := h
      exact (congrFun (congrFun hI aq) kq).symm.trans (Eq.trans (wi_nc _ _ (fun q => haq.1 q.1)) rfl)
    · simp only [if_neg hq2] at h
      simp only [Prod.mk.injEq] at h
      obtain ⟨-, hI, hJ⟩ := h
      exact (congrFun (congrFun hI aq) kq).symm.trans rfl
theorem fjX10_dies_b59 {r1 : Int} {I2 : Mi} {J3 : Mj} {r11 : Int} {I12 : Mi} {J13 : Mj} {w : Int} {t : Int} {S : Mi × Mj} {v : (Int × Int)} {S7 : Mi × Mj} {r0 : ((Int × Int) ⊕ Int)} {I0 : Mi} {J0 : Mj} (h : fX10_dies_b59 r1 I2 J3 r11 I12 J13 w t S v S7 = (r0, I0, J0)) (aq kq : Nat) (haq : True) : J0 aq kq = S7.2 aq kq := by
  obtain ⟨I, J⟩ := S
  obtain ⟨I19, J19⟩ := S7
  obtain ⟨n0, k⟩ := v
  unfold fX10_dies_b59 at h
  try simp only at h
  by_cases hq1 : (gi I19 59 108) ≤ k
  · simp only [if_pos hq1] at h
    exact fjX10_dies_107 h aq kq haq
  · simp only [if_neg hq1] at h
    by_cases hq2 : (gi I19 59 (120 + 32 * k + 1).toNat) = w
    · simp only [if_pos hq2] at h
      simp only [Prod.mk.injEq] at h
      obtain ⟨-, hI, hJ⟩ := h
      exact (congrFun (congrFun hJ aq) kq).symm.trans rfl
    · simp only [if_neg hq2] at h
      simp only [Prod.mk.injEq] at h
      obtain ⟨-, hI, hJ⟩ := h
      exact (congrFun (congrFun hJ aq) kq).symm.trans rfl
noncomputable def fX10_dies (w : Int) (t : Int) (S : Mi × Mj) : Int × Mi × Mj :=
  match S with
  | (I, J) =>
    match fX10_lay ((wi I 57 0 0), J) with
    | (r1, I2, J3) =>
      if 0 ≤ w ∧ w < gi I 59 0 then
        if 0 ≤ t ∧ t < gi I 59 0 then
          if gX10_areUnfit w t (I2 59) = true then
            (-1, I2, J3)
          else
            match fX10_snap (I2, J3) with
            | (r11, I12, J13) =>
              lpr (fX10_dies_b59 r1 I2 J3 r11 I12 J13 w t (I, J)) 0 ((gi I 59 108 - 0).toNat + 1) (0, 0) ((wi I12 59 (((8 + (3 * w)) + 2).toNat) 1), J13)
        else
          (-1, I2, J3)
      else
        (-1, I2, J3)
theorem frX10_dies {w : Int} {t : Int} {S : Mi × Mj} {r0 : Int} {I0 : Mi} {J0 : Mj} (h : fX10_dies w t S = (r0, I0, J0)) (aq kq : Nat) (haq : aq ≠ 59 ∧ aq ≠ 62 ∧ ¬ (aq = 57 ∧ kq = 0) ∧ ¬ (aq = 57 ∧ kq = 22) ∧ ¬ (aq = 57 ∧ kq = 23)) : I0 aq kq = S.1 aq kq := by
  obtain ⟨I, J⟩ := S
  unfold fX10_dies at h
  try simp only at h
  obtain ⟨⟨r1, I2, J3⟩, hq1⟩ : ∃ q, q = fX10_lay ((wi I 57 0 0), J) := ⟨_, rfl⟩
  rw [← hq1] at h; try simp only at h
  by_cases hq2 : 0 ≤ w ∧ w < gi I 59 0
  · simp only [if_pos hq2] at h
    by_cases hq3 : 0 ≤ t ∧ t < gi I 59 0
    · simp only [if_pos hq3] at h
      by_cases hq4 : gX10_areUnfit w t (I2 59) = true
      · simp only [if_pos hq4] at h
        simp only [Prod.mk.injEq] at h
        obtain ⟨-, hI, hJ⟩ := h
        exact (congrFun (congrFun hI aq) kq).symm.trans (Eq.trans (frX10_lay hq1.symm aq kq ⟨haq.2.2.2.1, (fun q => haq.1 q.1), (fun q => haq.1 q.1), (fun q => haq.1 q.1), (fun q => haq.1 q.1), (fun q => haq.1 q.1)⟩) (Eq.trans (wi_nc _ _ haq.2.2.1) rfl))
      · simp only [if_neg hq4] at h
        obtain ⟨⟨r11, I12, J13⟩, hq5⟩ : ∃ q, q = fX10_snap (I2, J3) := ⟨_, rfl⟩
        rw [← hq5] at h; try simp only at h
        exact (lpr_fr (fun v S r I5 J5 hq => frX10_dies_b59 hq aq kq haq) h).trans (Eq.trans (wi_nc _ _ (fun q => haq.1 q.1)) (Eq.trans (frX10_snap hq5.symm aq kq ⟨haq.2.1, haq.2.2.2.2⟩) (Eq.trans (frX10_lay hq1.symm aq kq ⟨haq.2.2.2.1, (fun q => haq.1 q.1), (fun q => haq.1 q.1), (fun q => haq.1 q.1), (fun q => haq.1 q.1), (fun q => haq.1 q.1)⟩) (Eq.trans (wi_nc _ _ haq.2.2.1) rfl))))
    · simp only [if_neg hq3] at h
      simp only [Prod.mk.injEq] at h
      obtain ⟨-, hI, hJ⟩ := h
      exact (congrFun (congrFun hI aq) kq).symm.trans (Eq.trans (frX10_lay hq1.symm aq kq ⟨haq.2.2.2.1, (fun q => haq.1 q.1), (fun q => haq.1 q.1), (fun q => haq.1 q.1), (fun q => haq.1 q.1), (fun q => haq.1 q.1)⟩) (Eq.trans (wi_nc _ _ haq.2.2.1) rfl))
  · simp only [if_neg hq2] at h
    simp only [Prod.mk.injEq] at h
    obtain ⟨-, hI, hJ⟩ := h
    exact (congrFun (congrFun hI aq) kq).symm.trans (Eq.trans (frX10_lay hq1.symm aq kq ⟨haq.2.2.2.1, (fun q => haq.1 q.1), (fun q => haq.1 q.1), (fun q => haq.1 q.1), (fun q => haq.1 q.1), (fun q => haq.1 q.1)⟩) (Eq.trans (wi_nc _ _ haq.2.2.1) rfl))
theorem fjX10_dies {w : Int} {t : Int} {S : Mi × Mj} {r0 : Int} {I0 : Mi} {J0 : Mj} (h : fX10_dies w t S = (r0, I0, J0)) (aq kq : Nat) (haq : True) : J0 aq kq = S.2 aq kq := by
  obtain ⟨I, J⟩ := S
  unfold fX10_dies at h
  try simp only at h
  obtain ⟨⟨r1, I2, J3⟩, hq1⟩ : ∃ q, q = fX10_lay ((wi I 57 0 0), J) := ⟨_, rfl⟩
  rw [← hq1] at h; try simp only at h
  by_cases hq2 : 0 ≤ w ∧ w < gi I 59 0
  · simp only [if_pos hq2] at h
    by_cases hq3 : 0 ≤ t ∧ t < gi I 59 0
    · simp only [if_pos hq3] at h
      by_cases hq4 : gX10_areUnfit w t (I2 59) = true
      · simp only [if_pos hq4] at h
        simp only [Prod.mk.injEq] at h
        obtain ⟨-, hI, hJ⟩ := h
        exact (congrFun (congrFun hJ aq) kq).symm.trans (Eq.trans (fjX10_lay hq1.symm aq kq trivial) rfl)
      · simp only [if_neg hq4] at h
        obtain ⟨⟨r11, I12, J13⟩, hq5⟩ : ∃ q, q = fX10_snap (I2, J3) := ⟨_, rfl⟩
        rw [← hq5] at h; try simp only at h
        exact (lpr_fj (fun v S r I5 J5 hq => fjX10_dies_b59 hq aq kq haq) h).trans (Eq.trans (fjX10_snap hq5.symm aq kq trivial) (Eq.trans (fjX10_lay hq1.symm aq kq trivial) rfl))
    · simp only [if_neg hq3] at h
      simp only [Prod.mk.injEq] at h
      obtain ⟨-, hI, hJ⟩ := h
      exact (congrFun (congrFun hJ aq) kq).symm.trans (Eq.trans (fjX10_lay hq1.symm aq kq trivial) rfl)
  · simp only [if_neg hq2] at h
    simp only [Prod.mk.injEq] at h
    obtain ⟨-, hI, hJ⟩ := h
    exact (congrFun (congrFun hJ aq) kq).symm.trans (Eq.trans (fjX10_lay hq1.symm aq kq trivial) rfl)
set_option maxHeartbeats 4000000 in
set_option maxRecDepth 100000 in
theorem qX10_dies {G : Gx} {σ : State} (hC : Cz G σ) {sh : Sh} {I : Mi} {J : Mj} (w t : Int) (hS : St sh) (hn : NX (I 59)) (hsn : 0 ≤ gi I 57 23 ∧ gi I 57 23 ≤ 6) (rw : -2147483648 ≤ w ∧ w < 2147483648) (rt : -2147483648 ≤ t ∧ t < 2147483648) : Ce G σ 3 yX10_dies cX10_dies 5 (some .int) [.ref (G.2.2 + 57), .int (iv (w)), .int (iv (t))] (sh, I, J) 0 0 (some (.int (iv ((fX10_dies w t (I, J)).1)))) (sh, (fX10_dies w t (I, J)).2.1, (fX10_dies w t (I, J)).2.2) := by
  refine Ct.of hC (by decide +kernel) (Nat.le_of_ble_eq_true rfl) ?_
  intro p l e R s m args below meth c C
  show Jz G σ p l e R s m args below meth c 5 0 0 (Qx (some (.int (iv ((fX10_dies w t (I, J)).1)))) (sh, (fX10_dies w t (I, J)).2.1, (fX10_dies w t (I, J)).2.2)) (sh, I, J) 0 0 0 [(0, .ref (G.2.2 + 57)), (1, .int (iv (w))), (2, .int (iv (t)))] []
  refine z_aload_n C dX10_dies_0 0 rfl ?_
  refine z_iconst C dX10_dies_1 ?_
  refine z_putI C dX10_dies_2 fX10_83 rfl rfl (kd_57 hS) rfl rfl ?_
  refine z_aload_n C dX10_dies_5 0 rfl ?_
  refine z_cVvF (st := []) (F := fX10_lay ((wi I 57 0 0), J)) C dX10_dies_6 mX10_167 (kd_57 hS) (qX10_lay hC  hS) rfl rfl (Nat.le_of_ble_eq_true rfl) (by decide) (fun r1 I2 J3 hT4 => ?_)
  have hn5 : NX (I2 59) := nxX10_lay hT4 hn
  have e108 := (show gi I2 59 108 = gi I 59 108 from (Eq.trans (gi_fk (frX10_lay hT4 59 108 (by decide))) (gi_wi_na _ _ _ _ (by decide))))
  have e0 := (show gi I2 59 0 = gi I 59 0 from (Eq.trans (gi_fk (frX10_lay hT4 59 0 (by decide))) (gi_wi_na _ _ _ _ (by decide))))
  have e1 := (show gi I2 59 1 = gi I 59 1 from (Eq.trans (gi_fk (frX10_lay hT4 59 1 (by decide))) (gi_wi_na _ _ _ _ (by decide))))
  have e112 := (show gi I2 59 112 = gi I 59 112 from (Eq.trans (gi_fk (frX10_lay hT4 59 112 (by decide))) (gi_wi_na _ _ _ _ (by decide))))
  have e113 := (show gi I2 59 113 = gi I 59 113 from (Eq.trans (gi_fk (frX10_lay hT4 59 113 (by decide))) (gi_wi_na _ _ _ _ (by decide))))
  have b108 := nx_c hn5
  have b0 := nx_p hn5
  have b1 := nx_m hn5
  have b112 := nx_s hn5
  have b113 := nx_sl hn5
  have b6 := nx_st hn5
  refine z_aload_n C dX10_dies_9 0 rfl ?_
  refine z_iload_n C dX10_dies_10 1 rfl ?_
  refine z_cVi (st := []) C dX10_dies_11 mX10_243 (kd_57 hS) (qX10_isWho hC w hS rw) rfl rfl (Nat.le_of_ble_eq_true rfl) (by decide) ?_
  refine z_eqi (b2 (0 ≤ w ∧ w < gi I 59 0)) (b2_iff (by rw [show gi I2 59 0 = gi I 59 0 from (Eq.trans (gi_fk (frX10_lay hT4 59 0 (by decide))) (gi_wi_na _ _ _ _ (by decide)))])) ?_
  refine z_if_eq_b 34 C dX10_dies_14 (by decide) (fun h6 => ?_) (fun h6 => ?_)
  ·
    refine z_iconst C dX10_dies_34 ?_
    have hf7 : fX10_dies w t (I, J) = (-1, I2, J3) := (by simp only [fX10_dies, hT4, if_neg h6])
    exact z_ireturnx C dX10_dies_35 (by rw [hf7]) (by rw [hf7])
  ·
    refine z_aload_n C dX10_dies_17 0 rfl ?_
    refine z_iload_n C dX10_dies_18 2 rfl ?_
    refine z_cVi (st := []) C dX10_dies_19 mX10_243 (kd_57 hS) (qX10_isWho hC t hS rt) rfl rfl (Nat.le_of_ble_eq_true rfl) (by decide) ?_
    refine z_eqi (b2 (0 ≤ t ∧ t < gi I 59 0)) (b2_iff (by rw [show gi I2 59 0 = gi I 59 0 from (Eq.trans (gi_fk (frX10_lay hT4 59 0 (by decide))) (gi_wi_na _ _ _ _ (by decide)))])) ?_
    refine z_if_eq_b 34 C dX10_dies_22 (by decide) (fun h8 => ?_) (fun h8 => ?_)
    ·
      refine z_iconst C dX10_dies_34 ?_
      have hf9 : fX10_dies w t (I, J) = (-1, I2, J3) := (by simp only [fX10_dies, hT4, if_pos h6, if_neg h8])
      exact z_ireturnx C dX10_dies_35 (by rw [hf9]) (by rw [hf9])
    ·
      refine z_aload_n C dX10_dies_25 0 rfl ?_
      refine z_iload_n C dX10_dies_26 1 rfl ?_
      refine z_iload_n C dX10_dies_27 2 rfl ?_
      refine z_cVi (st := []) C dX10_dies_28 mX10_297 (kd_57 hS) (qX10_areUnfit hC w t hS (by omega) (by omega)) rfl rfl (Nat.le_of_ble_eq_true rfl) (by decide) ?_
      refine z_if_eq_b 36 C dX10_dies_31 (by decide) (fun h10 => ?_) (fun h10 => ?_)
      ·
        refine z_aload_n C dX10_dies_36 0 rfl ?_
        refine z_cVvF (st := []) (F := fX10_snap (I2, J3)) C dX10_dies_37 mX10_272 (kd_57 hS) (qX10_snap hC  hS (by have : gi I2 57 23 = gi I 57 23 := (Eq.trans (gi_fk (frX10_lay hT4 57 23 (by decide))) (gi_wi_nk _ _ _ (by decide))); have := gi_rng I 57 23; have := gi_rng I2 57 23; omega)) rfl rfl (Nat.le_of_ble_eq_true rfl) (by decide) (fun r11 I12 J13 hT14 => ?_)
        have s108 : gi I12 59 108 = gi I 59 108 := (gi_fk (frX10_snap hT14 59 108 (by decide))).trans (show gi I2 59 108 = gi I 59 108 from (Eq.trans (gi_fk (frX10_lay hT4 59 108 (by decide))) (gi_wi_na _ _ _ _ (by decide))))
        refine z_aload_n C dX10_dies_40 0 rfl ?_
        refine z_getR C dX10_dies_41 fX10_13 rfl (kd_57 hS) (r_57_14 hS) ?_
        refine z_bipush C dX10_dies_44 (by decide) ?_
        refine z_iconst C dX10_dies_46 ?_
        refine z_iload_n C dX10_dies_47 1 rfl ?_
        refine z_imul C dX10_dies_48 ?_
        refine z_iadd C dX10_dies_49 ?_
        refine z_iconst C dX10_dies_50 ?_
        refine z_iadd C dX10_dies_51 ?_
        refine z_iconst C dX10_dies_52 ?_
        refine z_iast (q := ((8 + (3 * w)) + 2).toNat) C dX10_dies_53 (ka_59 hS) (by omega) (by omega) ?_
        refine z_iconst C dX10_dies_54 ?_
        refine z_istore_n (lv' := [(0, .ref (G.2.2 + 57)), (1, .int (iv (w))), (2, .int (iv (t))), (3, .int (iv (0)))]) C dX10_dies_55 rfl (by decide) [1, 2, 3, 0] rfl ?_
        refine z_iconst C dX10_dies_56 ?_
        refine z_istore (lv' := [(0, .ref (G.2.2 + 57)), (1, .int (iv (w))), (2, .int (iv (t))), (3, .int (iv (0))), (4, .int (iv (0)))]) C dX10_dies_57 (by decide) [1, 2, 3, 4, 0] rfl ?_
        have hL16 : ∀ (N15 : Nat) (n0 : Int) (k : Int) (I19 : Mi) (J19 : Mj), (∀ aq kq : Nat, aq ≠ 59 ∧ aq ≠ 62 ∧ ¬ (aq = 57 ∧ kq = 0) ∧ ¬ (aq = 57 ∧ kq = 22) ∧ ¬ (aq = 57 ∧ kq = 23) → I19 aq kq = (wi I12 59 (((8 + (3 * w)) + 2).toNat) 1) aq kq) → (∀ aq kq : Nat, True → J19 aq kq = J13 aq kq) → (0 ≤ k ∧ k ≤ gi I 59 108) → (gi I19 59 108 = gi I 59 108) → fX10_dies w t (I, J) = lpr (fX10_dies_b59 r1 I2 J3 r11 I12 J13 w t (I, J)) 0 N15 (n0, k) (I19, J19) → (gi I 59 108 - k).toNat < N15 → Jz G σ p l e R s m args below meth c 5 0 0 (Qx (some (.int (iv ((fX10_dies w t (I, J)).1)))) (sh, (fX10_dies w t (I, J)).2.1, (fX10_dies w t (I, J)).2.2)) (sh, I19, J19) 0 0 59 [(0, .ref (G.2.2 + 57)), (1, .int (iv (w))), (2, .int (iv (t))), (3, .int (iv (n0))), (4, .int (iv (k)))] [] := by
          intro N15
          induction N15 with
          | zero => intro n0 k I19 J19 hfr20 hfj21 hk h108 hi18 hm; exact absurd hm (Nat.not_lt_zero _)
          | succ N15 ih17 =>
            intro n0 k I19 J19 hfr20 hfj21 hk h108 hi18 hm
            have b108b := h108
            have hJ22 : fX10_dies_b59 r1 I2 J3 r11 I12 J13 w t (I, J) (n0, k) (I19, J19) = fX10_dies_107 r1 I2 J3 r11 I12 J13 n0 k I19 J19 w t (I, J) → Jz G σ p l e R s m args below meth c 5 0 0 (Qx (some (.int (iv ((fX10_dies w t (I, J)).1)))) (sh, (fX10_dies w t (I, J)).2.1, (fX10_dies w t (I, J)).2.2)) (sh, I19, J19) 0 0 107 [(0, .ref (G.2.2 + 57)), (1, .int (iv (w))), (2, .int (iv (t))), (3, .int (iv (n0))), (4, .int (iv (k)))] [] := by
              intro hq23
              refine z_aload_n C dX10_dies_107 0 rfl ?_
              refine z_getR C dX10_dies_108 fX10_13 rfl (kd_57 hS) (r_57_14 hS) ?_
              refine z_bipush C dX10_dies_111 (by decide) ?_
              refine z_iald (q := 110) C dX10_dies_113 (ka_59 hS) rfl (by decide) ?_
              refine z_iload_n C dX10_dies_114 1 rfl ?_
              refine z_icmp_eq 129 C dX10_dies_115 (by decide) (gi_rng _ _ _) (by omega) (fun h24 => ?_) (fun h24 => ?_)
              ·
                refine z_aload_n C dX10_dies_129 0 rfl ?_
                refine z_cVvF (st := []) (F := fX10_giveBack (I19, J19)) C dX10_dies_130 mX10_335 (kd_57 hS) (qX10_giveBack hC  hS) rfl rfl (Nat.le_of_ble_eq_true rfl) (by decide) (fun r25 I26 J27 hT28 => ?_)
                refine z_iload_n C dX10_dies_133 3 rfl ?_
                have hf29 : fX10_dies w t (I, J) = (n0, I26, J27) := (hi18.trans (lpr_r (hq23.trans (by simp only [fX10_dies_107, if_pos h24, hT28]))))
                exact z_ireturnx C dX10_dies_134 (by rw [hf29]) (by rw [hf29])
              ·
                refine z_aload_n C dX10_dies_118 0 rfl ?_
                refine z_getR C dX10_dies_119 fX10_13 rfl (kd_57 hS) (r_57_14 hS) ?_
                refine z_bipush C dX10_dies_122 (by decide) ?_
                refine z_iald (q := 111) C dX10_dies_124 (ka_59 hS) rfl (by decide) ?_
                refine z_iload_n C dX10_dies_125 1 rfl ?_
                refine z_icmp_ne 133 C dX10_dies_126 (by decide) (gi_rng _ _ _) (by omega) (fun h30 => ?_) (fun h30 => ?_)
                ·
                  refine z_iload_n C dX10_dies_133 3 rfl ?_
                  have hf31 : fX10_dies w t (I, J) = (n0, I19, J19) := (hi18.trans (lpr_r (hq23.trans (by simp only [fX10_dies_107, if_neg h24, if_neg h30]))))
                  exact z_ireturnx C dX10_dies_134 (by rw [hf31]) (by rw [hf31])
                ·
                  refine z_aload_n C dX10_dies_129 0 rfl ?_
                  refine z_cVvF (st := []) (F := fX10_giveBack (I19, J19)) C dX10_dies_130 mX10_335 (kd_57 hS) (qX10_giveBack hC  hS) rfl rfl (Nat.le_of_ble_eq_true rfl) (by decide) (fun r32 I33 J34 hT35 => ?_)
                  refine z_iload_n C dX10_dies_133 3 rfl ?_
                  have hf36 : fX10_dies w t (I, J) = (n0, I33, J34) := (hi18.trans (lpr_r (hq23.trans (by simp only [fX10_dies_107, if_neg h24, if_pos h30, hT35]))))
                  exact z_ireturnx C dX10_dies_134 (by rw [hf36]) (by rw [hf36])
            refine z_iload C dX10_dies_59 4 rfl ?_
            refine z_aload_n C dX10_dies_61 0 rfl ?_
            refine z_cVi (st := [.int (iv (k))]) C dX10_dies_62 mX10_188 (kd_57 hS) (qX10_coins hC  hS) rfl rfl (Nat.le_of_ble_eq_true rfl) (by decide) ?_
            refine z_icmp_ge 107 C dX10_dies_65 (by decide) (by omega) (gi_rng _ _ _) (fun h37 => ?_) (fun h37 => ?_)
            ·
              exact hJ22 (by simp only [fX10_dies_b59, if_pos h37])
            ·
              refine z_aload_n C dX10_dies_68 0 rfl ?_
              refine z_iload C dX10_dies_69 4 rfl ?_
              refine z_iconst C dX10_dies_71 ?_
              refine z_cVi (st := []) C dX10_dies_72 mX10_256 (kd_57 hS) (qX10_ofCoin hC k 1 hS (by omega) (by omega)) rfl rfl (Nat.le_of_ble_eq_true rfl) (by decide) ?_
              refine z_iload_n C dX10_dies_75 1 rfl ?_
              refine z_icmp_eq 82 C dX10_dies_76 (by decide) (gi_rng _ _ _) (by omega) (fun h38 => ?_) (fun h38 => ?_)
              ·
                refine z_aload_n C dX10_dies_82 0 rfl ?_
                refine z_getR C dX10_dies_83 fX10_13 rfl (kd_57 hS) (r_57_14 hS) ?_
                refine z_bipush C dX10_dies_86 (by decide) ?_
                refine z_bipush C dX10_dies_88 (by decide) ?_
                refine z_iload C dX10_dies_90 4 rfl ?_
                refine z_imul C dX10_dies_92 ?_
                refine z_iadd C dX10_dies_93 ?_
                refine z_iconst C dX10_dies_94 ?_
                refine z_iadd C dX10_dies_95 ?_
                refine z_iload_n C dX10_dies_96 2 rfl ?_
                refine z_iast (q := ((120 + (32 * k)) + 1).toNat) C dX10_dies_97 (ka_59 hS) (by omega) (by omega) ?_
                refine z_iinc (lv' := [(0, .ref (G.2.2 + 57)), (1, .int (iv (w))), (2, .int (iv (t))), (3, .int (iv (n0 + 1))), (4, .int (iv (k)))]) C dX10_dies_98 3 rfl (by decide) [1, 2, 3, 0, 4] rfl ?_
                refine z_iinc (lv' := [(0, .ref (G.2.2 + 57)), (1, .int (iv (w))), (2, .int (iv (t))), (3, .int (iv (n0 + 1))), (4, .int (iv (k + 1)))]) C dX10_dies_101 4 rfl (by decide) [1, 2, 3, 4, 0] rfl ?_
                refine z_goto 59 C dX10_dies_104 (by decide) ?_
                exact ih17 (n0 + 1) (k + 1) (wi I19 59 (((120 + (32 * k)) + 1).toNat) t) J19 (fun aq kq haq => Eq.trans (wi_nc _ _ (fun q => haq.1 q.1)) (hfr20 aq kq haq)) (fun aq kq haq => Eq.trans rfl (hfj21 aq kq haq)) (by omega) (by rw [gi_wi_nk _ _ _ (by omega)]; exact h108) (hi18.trans (lpr_l (by simp only [fX10_dies_b59, if_neg h37, if_pos h38]))) (by omega)
              ·
                refine z_goto 101 C dX10_dies_79 (by decide) ?_
                refine z_iinc (lv' := [(0, .ref (G.2.2 + 57)), (1, .int (iv (w))), (2, .int (iv (t))), (3, .int (iv (n0))), (4, .int (iv (k + 1)))]) C dX10_dies_101 4 rfl (by decide) [1, 2, 3, 4, 0] rfl ?_
                refine z_goto 59 C dX10_dies_104 (by decide) ?_
                exact ih17 n0 (k + 1) I19 J19 (fun aq kq haq => Eq.trans rfl (hfr20 aq kq haq)) (fun aq kq haq => Eq.trans rfl (hfj21 aq kq haq)) (by omega) h108 (hi18.trans (lpr_l (by simp only [fX10_dies_b59, if_neg h37, if_neg h38]))) (by omega)
        exact hL16 _ 0 0 (wi I12 59 (((8 + (3 * w)) + 2).toNat) 1) J13 (fun _ _ _ => rfl) (fun _ _ _ => rfl) (by omega) (by rw [gi_wi_nk _ _ _ (by omega)]; exact s108) (by simp only [fX10_dies, hT4, if_pos h6, if_pos h8, if_neg h10, hT14]) (Nat.lt_succ_self _)
      ·
        refine z_iconst C dX10_dies_34 ?_
        have hf39 : fX10_dies w t (I, J) = (-1, I2, J3) := (by simp only [fX10_dies, hT4, if_pos h6, if_pos h8, if_pos h10])
        exact z_ireturnx C dX10_dies_35 (by rw [hf39]) (by rw [hf39])

noncomputable def fX10_foreign_b13 (r1 : Int) (I2 : Mi) (J3 : Mj) (w : Int) (S : Mi × Mj) (v : (Int × Int)) (S7 : Mi × Mj) : ((Int × Int) ⊕ Int) × Mi × Mj :=
  match S with
  | (I, J) =>
  match v with
  | (n0, k) =>
  match S7 with
  | (I10, J10) =>
    if (gi I 59 108) ≤ k then
      if w = (-1) then
        (.inr (n0), I10, J10)
      else
        (.inr (-1), I10, J10)
    else
      if (gi I10 59 (120 + 32 * k + 1).toNat) = (gi I10 59 (120 + 32 * k + 4).toNat) then
        (.inl (n0, k + 1), I10, J10)
      else
        if n0 = w then
          (.inr (k), I10, J10)
        else
          (.inl (n0 + 1, k + 1), I10, J10)
theorem frX10_foreign_b13 {r1 : Int} {I2 : Mi} {J3 : Mj} {w : Int} {S : Mi × Mj} {v : (Int × Int)} {S7 : Mi × Mj} {r0 : ((Int × Int) ⊕ Int)} {I0 : Mi} {J0 : Mj} (h : fX10_foreign_b13 r1 I2 J3 w S v S7 = (r0, I0, J0)) (aq kq : Nat) (haq : ¬ (aq = 57 ∧ kq = 0) ∧ ¬ (aq = 57 ∧ kq = 22) ∧ ¬ (aq = 59 ∧ kq = 110) ∧ ¬ (aq = 59 ∧ kq = 111) ∧ ¬ (aq = 59 ∧ kq = 4) ∧ ¬ (aq = 59 ∧ kq = 5) ∧ ¬ (aq = 59 ∧ kq = 6)) : I0 aq kq = S7.1 aq kq := by
  obtain ⟨I, J⟩ := S
  obtain ⟨I10, J10⟩ := S7
  obtain ⟨n0, k⟩ := v
  unfold fX10_foreign_b13 at h
  try simp only at h
  by_cases hq1 : (gi I 59 108) ≤ k
  · simp only [if_pos hq1] at h
    by_cases hq2 : w = (-1)
    · simp only [if_pos hq2] at h
      simp only [Prod.mk.injEq] at h
      obtain ⟨-, hI, hJ⟩ := h
      exact (congrFun (congrFun hI aq) kq).symm.trans rfl
    · simp only [if_neg hq2] at h
      simp only [Prod.mk.injEq] at h
      obtain ⟨-, hI, hJ⟩ := h
      exact (congrFun (congrFun hI aq) kq).symm.trans rfl
  · simp only [if_neg hq1] at h
    by_cases hq3 : (gi I10 59 (120 + 32 * k + 1).toNat) = (gi I10 59 (120 + 32 * k + 4).toNat)
    · simp only [if_pos hq3] at h
      simp only [Prod.mk.injEq] at h
      obtain ⟨-, hI, hJ⟩ := h
      exact (congrFun (congrFun hI aq) kq).symm.trans rfl
    · simp only [if_neg hq3] at h
      by_cases hq4 : n0 = w
      · simp only [if_pos hq4] at h
        simp only [Prod.mk.injEq] at h
        obtain ⟨-, hI, hJ⟩ := h
        exact (congrFun (congrFun hI aq) kq).symm.trans rfl
      · simp only [if_neg hq4] at h
        simp only [Prod.mk.injEq] at h
        obtain ⟨-, hI, hJ⟩ := h
        exact (congrFun (congrFun hI aq) kq).symm.trans rfl
theorem fjX10_foreign_b13 {r1 : Int} {I2 : Mi} {J3 : Mj} {w : Int} {S : Mi × Mj} {v : (Int × Int)} {S7 : Mi × Mj} {r0 : ((Int × Int) ⊕ Int)} {I0 : Mi} {J0 : Mj} (h : fX10_foreign_b13 r1 I2 J3 w S v S7 = (r0, I0, J0)) (aq kq : Nat) (haq : True) : J0 aq kq = S7.2 aq kq := by
  obtain ⟨I, J⟩ := S
  obtain ⟨I10, J10⟩ := S7
  obtain ⟨n0, k⟩ := v
  unfold fX10_foreign_b13 at h
  try simp only at h
  by_cases hq1 : (gi I 59 108) ≤ k
  · simp only [if_pos hq1] at h
    by_cases hq2 : w = (-1)
    · simp only [if_pos hq2] at h
      simp only [Prod.mk.injEq] at h
      obtain ⟨-, hI, hJ⟩ := h
      exact (congrFun (congrFun hJ aq) kq).symm.trans rfl
    · simp only [if_neg hq2] at h
      simp only [Prod.mk.injEq] at h
      obtain ⟨-, hI, hJ⟩ := h
      exact (congrFun (congrFun hJ aq) kq).symm.trans rfl
  · simp only [if_neg hq1] at h
    by_cases hq3 : (gi I10 59 (120 + 32 * k + 1).toNat) = (gi I10 59 (120 + 32 * k + 4).toNat)
    · simp only [if_pos hq3] at h
      simp only [Prod.mk.injEq] at h
      obtain ⟨-, hI, hJ⟩ := h
      exact (congrFun (congrFun hJ aq) kq).symm.trans rfl
    · simp only [if_neg hq3] at h
      by_cases hq4 : n0 = w
      · simp only [if_pos hq4] at h
        simp only [Prod.mk.injEq] at h
        obtain ⟨-, hI, hJ⟩ := h
        exact (congrFun (congrFun hJ aq) kq).symm.trans rfl
      · simp only [if_neg hq4] at h
        simp only [Prod.mk.injEq] at h
        obtain ⟨-, hI, hJ⟩ := h
        exact (congrFun (congrFun hJ aq) kq).symm.trans rfl
noncomputable def fX10_foreign (w : Int) (S : Mi × Mj) : Int × Mi × Mj :=
  match S with
  | (I, J) =>
    match fX10_lay ((wi I 57 0 0), J) with
    | (r1, I2, J3) =>
      lpr (fX10_foreign_b13 r1 I2 J3 w (I, J)) 0 ((gi I 59 108 - 0).toNat + 1) (0, 0) (I2, J3)
theorem frX10_foreign {w : Int} {S : Mi × Mj} {r0 : Int} {I0 : Mi} {J0 : Mj} (h : fX10_foreign w S = (r0, I0, J0)) (aq kq : Nat) (haq : ¬ (aq = 57 ∧ kq = 0) ∧ ¬ (aq = 57 ∧ kq = 22) ∧ ¬ (aq = 59 ∧ kq = 110) ∧ ¬ (aq = 59 ∧ kq = 111) ∧ ¬ (aq = 59 ∧ kq = 4) ∧ ¬ (aq = 59 ∧ kq = 5) ∧ ¬ (aq = 59 ∧ kq = 6)) : I0 aq kq = S.1 aq kq := by
  obtain ⟨I, J⟩ := S
  unfold fX10_foreign at h
  try simp only at h
  obtain ⟨⟨r1, I2, J3⟩, hq1⟩ : ∃ q, q = fX10_lay ((wi I 57 0 0), J) := ⟨_, rfl⟩
  rw [← hq1] at h; try simp only at h
  exact (lpr_fr (fun v S r I5 J5 hq => frX10_foreign_b13 hq aq kq haq) h).trans (Eq.trans (frX10_lay hq1.symm aq kq ⟨haq.2.1, haq.2.2.1, haq.2.2.2.1, haq.2.2.2.2.1, haq.2.2.2.2.2.1, haq.2.2.2.2.2.2⟩) (Eq.trans (wi_nc _ _ haq.1) rfl))
theorem fjX10_foreign {w : Int} {S : Mi × Mj} {r0 : Int} {I0 : Mi} {J0 : Mj} (h : fX10_foreign w S = (r0, I0, J0)) (aq kq : Nat) (haq : True) : J0 aq kq = S.2 aq kq := by
  obtain ⟨I, J⟩ := S
  unfold fX10_foreign at h
  try simp only at h
  obtain ⟨⟨r1, I2, J3⟩, hq1⟩ : ∃ q, q = fX10_lay ((wi I 57 0 0), J) := ⟨_, rfl⟩
  rw [← hq1] at h; try simp only at h
  exact (lpr_fj (fun v S r I5 J5 hq => fjX10_foreign_b13 hq aq kq haq) h).trans (Eq.trans (fjX10_lay hq1.symm aq kq trivial) rfl)
set_option maxHeartbeats 4000000 in
set_option maxRecDepth 100000 in
theorem qX10_foreign {G : Gx} {σ : State} (hC : Cz G σ) {sh : Sh} {I : Mi} {J : Mj} (w : Int) (hS : St sh) (hn : NX (I 59)) (rw : -2147483648 ≤ w ∧ w < 2147483648) : Ce G σ 3 yX10_foreign cX10_foreign 4 (some .int) [.ref (G.2.2 + 57), .int (iv (w))] (sh, I, J) 0 0 (some (.int (iv ((fX10_foreign w (I, J)).1)))) (sh, (fX10_foreign w (I, J)).2.1, (fX10_foreign w (I, J)).2.2) := by
  refine Ct.of hC (by decide +kernel) (Nat.le_of_ble_eq_true rfl) ?_
  intro p l e R s m args below meth c C
  show Jz G σ p l e R s m args below meth c 4 0 0 (Qx (some (.int (iv ((fX10_foreign w (I, J)).1)))) (sh, (fX10_foreign w (I, J)).2.1, (fX10_foreign w (I, J)).2.2)) (sh, I, J) 0 0 0 [(0, .ref (G.2.2 + 57)), (1, .int (iv (w)))] []
  refine z_aload_n C dX10_foreign_0 0 rfl ?_
  refine z_iconst C dX10_foreign_1 ?_
  refine z_putI C dX10_foreign_2 fX10_83 rfl rfl (kd_57 hS) rfl rfl ?_
  refine z_aload_n C dX10_foreign_5 0 rfl ?_
  refine z_cVvF (st := []) (F := fX10_lay ((wi I 57 0 0), J)) C dX10_foreign_6 mX10_167 (kd_57 hS) (qX10_lay hC  hS) rfl rfl (Nat.le_of_ble_eq_true rfl) (by decide) (fun r1 I2 J3 hT4 => ?_)
  have hn5 : NX (I2 59) := nxX10_lay hT4 hn
  have e108 := (show gi I2 59 108 = gi I 59 108 from (Eq.trans (gi_fk (frX10_lay hT4 59 108 (by decide))) (gi_wi_na _ _ _ _ (by decide))))
  have e0 := (show gi I2 59 0 = gi I 59 0 from (Eq.trans (gi_fk (frX10_lay hT4 59 0 (by decide))) (gi_wi_na _ _ _ _ (by decide))))
  have e1 := (show gi I2 59 1 = gi I 59 1 from (Eq.trans (gi_fk (frX10_lay hT4 59 1 (by decide))) (gi_wi_na _ _ _ _ (by decide))))
  have e112 := (show gi I2 59 112 = gi I 59 112 from (Eq.trans (gi_fk (frX10_lay hT4 59 112 (by decide))) (gi_wi_na _ _ _ _ (by decide))))
  have e113 := (show gi I2 59 113 = gi I 59 113 from (Eq.trans (gi_fk (frX10_lay hT4 59 113 (by decide))) (gi_wi_na _ _ _ _ (by decide))))
  have b108 := nx_c hn5
  have b0 := nx_p hn5
  have b1 := nx_m hn5
  have b112 := nx_s hn5
  have b113 := nx_sl hn5
  have b6 := nx_st hn5
  refine z_iconst C dX10_foreign_9 ?_
  refine z_istore_n (lv' := [(0, .ref (G.2.2 + 57)), (1, .int (iv (w))), (2, .int (iv (0)))]) C dX10_foreign_10 rfl (by decide) [1, 2, 0] rfl ?_
  refine z_iconst C dX10_foreign_11 ?_
  refine z_istore_n (lv' := [(0, .ref (G.2.2 + 57)), (1, .int (iv (w))), (2, .int (iv (0))), (3, .int (iv (0)))]) C dX10_foreign_12 rfl (by decide) [1, 2, 3, 0] rfl ?_
  have hL7 : ∀ (N6 : Nat) (n0 : Int) (k : Int) (I10 : Mi) (J10 : Mj), (∀ aq kq : Nat, ¬ (aq = 57 ∧ kq = 0) ∧ ¬ (aq = 57 ∧ kq = 22) ∧ ¬ (aq = 59 ∧ kq = 110) ∧ ¬ (aq = 59 ∧ kq = 111) ∧ ¬ (aq = 59 ∧ kq = 4) ∧ ¬ (aq = 59 ∧ kq = 5) ∧ ¬ (aq = 59 ∧ kq = 6) → I10 aq kq = I2 aq kq) → (∀ aq kq : Nat, True → J10 aq kq = J3 aq kq) → (0 ≤ k ∧ k ≤ gi I 59 108) → (0 ≤ n0 ∧ n0 ≤ k) → fX10_foreign w (I, J) = lpr (fX10_foreign_b13 r1 I2 J3 w (I, J)) 0 N6 (n0, k) (I10, J10) → (gi I 59 108 - k).toNat < N6 → Jz G σ p l e R s m args below meth c 4 0 0 (Qx (some (.int (iv ((fX10_foreign w (I, J)).1)))) (sh, (fX10_foreign w (I, J)).2.1, (fX10_foreign w (I, J)).2.2)) (sh, I10, J10) 0 0 13 [(0, .ref (G.2.2 + 57)), (1, .int (iv (w))), (2, .int (iv (n0))), (3, .int (iv (k)))] [] := by
    intro N6
    induction N6 with
    | zero => intro n0 k I10 J10 hfr11 hfj12 hk hnb hi9 hm; exact absurd hm (Nat.not_lt_zero _)
    | succ N6 ih8 =>
      intro n0 k I10 J10 hfr11 hfj12 hk hnb hi9 hm
      refine z_iload_n C dX10_foreign_13 3 rfl ?_
      refine z_aload_n C dX10_foreign_14 0 rfl ?_
      refine z_cVi (st := [.int (iv (k))]) C dX10_foreign_15 mX10_188 (kd_57 hS) (qX10_coins hC  hS) rfl rfl (Nat.le_of_ble_eq_true rfl) (by decide) ?_
      refine z_eqi (gi I 59 108) (by rw [show gi I10 59 108 = gi I 59 108 from (Eq.trans (gi_fk (hfr11 59 108 (by decide))) (Eq.trans (gi_fk (frX10_lay hT4 59 108 (by decide))) (gi_wi_na _ _ _ _ (by decide))))]) ?_
      refine z_icmp_ge 54 C dX10_foreign_18 (by decide) (by omega) (gi_rng _ _ _) (fun h13 => ?_) (fun h13 => ?_)
      ·
        refine z_iload_n C dX10_foreign_54 1 rfl ?_
        refine z_iconst C dX10_foreign_55 ?_
        refine z_icmp_ne 63 C dX10_foreign_56 (by decide) (by omega) (by decide) (fun h14 => ?_) (fun h14 => ?_)
        ·
          refine z_iconst C dX10_foreign_63 ?_
          have hf15 : fX10_foreign w (I, J) = (-1, I10, J10) := (hi9.trans (lpr_r (by simp only [fX10_foreign_b13, if_pos h13, if_neg h14])))
          exact z_ireturnx C dX10_foreign_64 (by rw [hf15]) (by rw [hf15])
        ·
          refine z_iload_n C dX10_foreign_59 2 rfl ?_
          refine z_goto 64 C dX10_foreign_60 (by decide) ?_
          have hf16 : fX10_foreign w (I, J) = (n0, I10, J10) := (hi9.trans (lpr_r (by simp only [fX10_foreign_b13, if_pos h13, if_pos h14])))
          exact z_ireturnx C dX10_foreign_64 (by rw [hf16]) (by rw [hf16])
      ·
        refine z_aload_n C dX10_foreign_21 0 rfl ?_
        refine z_iload_n C dX10_foreign_22 3 rfl ?_
        refine z_iconst C dX10_foreign_23 ?_
        refine z_cVi (st := []) C dX10_foreign_24 mX10_256 (kd_57 hS) (qX10_ofCoin hC k 1 hS (by omega) (by omega)) rfl rfl (Nat.le_of_ble_eq_true rfl) (by decide) ?_
        refine z_aload_n C dX10_foreign_27 0 rfl ?_
        refine z_iload_n C dX10_foreign_28 3 rfl ?_
        refine z_cVi (st := [.int (iv (gi I10 59 (120 + 32 * k + 1).toNat))]) C dX10_foreign_29 mX10_253 (kd_57 hS) (qX10_topOf hC k hS (by omega)) rfl rfl (Nat.le_of_ble_eq_true rfl) (by decide) ?_
        refine z_icmp_ne 38 C dX10_foreign_32 (by decide) (gi_rng _ _ _) (gi_rng _ _ _) (fun h17 => ?_) (fun h17 => ?_)
        ·
          refine z_iload_n C dX10_foreign_38 2 rfl ?_
          refine z_iload_n C dX10_foreign_39 1 rfl ?_
          refine z_icmp_ne 45 C dX10_foreign_40 (by decide) (by omega) (by omega) (fun h18 => ?_) (fun h18 => ?_)
          ·
            refine z_iinc (lv' := [(0, .ref (G.2.2 + 57)), (1, .int (iv (w))), (2, .int (iv (n0 + 1))), (3, .int (iv (k)))]) C dX10_foreign_45 2 rfl (by decide) [1, 2, 0, 3] rfl ?_
            refine z_iinc (lv' := [(0, .ref (G.2.2 + 57)), (1, .int (iv (w))), (2, .int (iv (n0 + 1))), (3, .int (iv (k + 1)))]) C dX10_foreign_48 3 rfl (by decide) [1, 2, 3, 0] rfl ?_
            refine z_goto 13 C dX10_foreign_51 (by decide) ?_
            exact ih8 (n0 + 1) (k + 1) I10 J10 (fun aq kq haq => Eq.trans rfl (hfr11 aq kq haq)) (fun aq kq haq => Eq.trans rfl (hfj12 aq kq haq)) (by omega) (by omega) (hi9.trans (lpr_l (by simp only [fX10_foreign_b13, if_neg h13, if_neg h17, if_neg h18]))) (by omega)
          ·
            refine z_iload_n C dX10_foreign_43 3 rfl ?_
            have hf19 : fX10_foreign w (I, J) = (k, I10, J10) := (hi9.trans (lpr_r (by simp only [fX10_foreign_b13, if_neg h13, if_neg h17, if_pos h18])))
            exact z_ireturnx C dX10_foreign_44 (by rw [hf19]) (by rw [hf19])
        ·
          refine z_goto 48 C dX10_foreign_35 (by decide) ?_
          refine z_iinc (lv' := [(0, .ref (G.2.2 + 57)), (1, .int (iv (w))), (2, .int (iv (n0))), (3, .int (iv (k + 1)))]) C dX10_foreign_48 3 rfl (by decide) [1, 2, 3, 0] rfl ?_
          refine z_goto 13 C dX10_foreign_51 (by decide) ?_
          exact ih8 n0 (k + 1) I10 J10 (fun aq kq haq => Eq.trans rfl (hfr11 aq kq haq)) (fun aq kq haq => Eq.trans rfl (hfj12 aq kq haq)) (by omega) (by omega) (hi9.trans (lpr_l (by simp only [fX10_foreign_b13, if_neg h13, if_pos h17]))) (by omega)
  exact hL7 _ 0 0 I2 J3 (fun _ _ _ => rfl) (fun _ _ _ => rfl) (by omega) (by omega) (by simp only [fX10_foreign, hT4]) (Nat.lt_succ_self _)

noncomputable def fX10_undo (S : Mi × Mj) : Int × Mi × Mj :=
  match S with
  | (I, J) =>
    if (gi I 57 23) = 0 then
      (-1, (wi I 57 0 0), J)
    else
      ((gi I 57 23) - 1, (wi (wi (cp (wi (wi I 57 0 0) 57 23 ((gi I 57 23) - 1)) 59 0 62 (7900 * (gi I 57 23 - 1)) 7900) 59 116 (gi I 59 116)) 59 117 (gi I 59 117)), J)
theorem frX10_undo {S : Mi × Mj} {r0 : Int} {I0 : Mi} {J0 : Mj} (h : fX10_undo  S = (r0, I0, J0)) (aq kq : Nat) (haq : aq ≠ 59 ∧ ¬ (aq = 57 ∧ kq = 0) ∧ ¬ (aq = 57 ∧ kq = 23)) : I0 aq kq = S.1 aq kq := by
  obtain ⟨I, J⟩ := S
  unfold fX10_undo at h
  try simp only at h
  by_cases hq1 : (gi I 57 23) = 0
  · simp only [if_pos hq1] at h
    simp only [Prod.mk.injEq] at h
    obtain ⟨-, hI, hJ⟩ := h
    exact (congrFun (congrFun hI aq) kq).symm.trans (Eq.trans (wi_nc _ _ haq.2.1) rfl)
  · simp only [if_neg hq1] at h
    simp only [Prod.mk.injEq] at h
    obtain ⟨-, hI, hJ⟩ := h
    exact (congrFun (congrFun hI aq) kq).symm.trans (Eq.trans (wi_nc _ _ (fun q => haq.1 q.1)) (Eq.trans (wi_nc _ _ (fun q => haq.1 q.1)) (Eq.trans (cp_fr (wi (wi I 57 0 0) 57 23 ((gi I 57 23) - 1)) 59 0 62 (7900 * (gi I 57 23 - 1)) 7900 aq kq haq.1) (Eq.trans (wi_nc _ _ haq.2.2) (Eq.trans (wi_nc _ _ haq.2.1) rfl)))))
theorem fjX10_undo {S : Mi × Mj} {r0 : Int} {I0 : Mi} {J0 : Mj} (h : fX10_undo  S = (r0, I0, J0)) (aq kq : Nat) (haq : True) : J0 aq kq = S.2 aq kq := by
  obtain ⟨I, J⟩ := S
  unfold fX10_undo at h
  try simp only at h
  by_cases hq1 : (gi I 57 23) = 0
  · simp only [if_pos hq1] at h
    simp only [Prod.mk.injEq] at h
    obtain ⟨-, hI, hJ⟩ := h
    exact (congrFun (congrFun hJ aq) kq).symm.trans rfl
  · simp only [if_neg hq1] at h
    simp only [Prod.mk.injEq] at h
    obtain ⟨-, hI, hJ⟩ := h
    exact (congrFun (congrFun hJ aq) kq).symm.trans rfl
set_option maxHeartbeats 4000000 in
set_option maxRecDepth 100000 in
theorem qX10_undo {G : Gx} {σ : State} (hC : Cz G σ) {sh : Sh} {I : Mi} {J : Mj}  (hS : St sh) (hsn : 0 ≤ gi I 57 23 ∧ gi I 57 23 ≤ 6) : Ce G σ 2 yX10_undo cX10_undo 4 (some .int) [.ref (G.2.2 + 57)] (sh, I, J) 0 0 (some (.int (iv ((fX10_undo (I, J)).1)))) (sh, (fX10_undo (I, J)).2.1, (fX10_undo (I, J)).2.2) := by
  refine Ct.of hC (by decide +kernel) (Nat.le_of_ble_eq_true rfl) ?_
  intro p l e R s m args below meth c C
  show Jz G σ p l e R s m args below meth c 4 0 0 (Qx (some (.int (iv ((fX10_undo (I, J)).1)))) (sh, (fX10_undo (I, J)).2.1, (fX10_undo (I, J)).2.2)) (sh, I, J) 0 0 0 [(0, .ref (G.2.2 + 57))] []
  refine z_aload_n C dX10_undo_0 0 rfl ?_
  refine z_iconst C dX10_undo_1 ?_
  refine z_putI C dX10_undo_2 fX10_83 rfl rfl (kd_57 hS) rfl rfl ?_
  refine z_aload_n C dX10_undo_5 0 rfl ?_
  refine z_getI C dX10_undo_6 fX10_240 rfl (kd_57 hS) ?_
  refine z_eqi (gi I 57 23) (gi_wi_nk _ _ _ (by decide)) ?_
  refine z_if_ne 14 C dX10_undo_9 (by decide) (gi_rng _ _ _) (fun h1 => ?_) (fun h1 => ?_)
  ·
    refine z_aload_n C dX10_undo_14 0 rfl ?_
    refine z_dup C dX10_undo_15 rfl ?_
    refine z_getI C dX10_undo_16 fX10_240 rfl (kd_57 hS) ?_
    refine z_eqi (gi I 57 23) (gi_wi_nk _ _ _ (by decide)) ?_
    refine z_iconst C dX10_undo_19 ?_
    refine z_isub C dX10_undo_20 ?_
    refine z_putI C dX10_undo_21 fX10_240 rfl rfl (kd_57 hS) rfl rfl ?_
    refine z_aload_n C dX10_undo_24 0 rfl ?_
    refine z_getR C dX10_undo_25 fX10_13 rfl (kd_57 hS) (r_57_14 hS) ?_
    refine z_bipush C dX10_undo_28 (by decide) ?_
    refine z_iald (q := 116) C dX10_undo_30 (ka_59 hS) rfl (by decide) ?_
    refine z_eqi (gi I 59 116) (Eq.trans (gi_wi_na _ _ _ _ (by decide)) (gi_wi_na _ _ _ _ (by decide))) ?_
    refine z_istore_n (lv' := [(0, .ref (G.2.2 + 57)), (1, .int (iv (gi I 59 116)))]) C dX10_undo_31 rfl (by decide) [1, 0] rfl ?_
    refine z_aload_n C dX10_undo_32 0 rfl ?_
    refine z_getR C dX10_undo_33 fX10_13 rfl (kd_57 hS) (r_57_14 hS) ?_
    refine z_bipush C dX10_undo_36 (by decide) ?_
    refine z_iald (q := 117) C dX10_undo_38 (ka_59 hS) rfl (by decide) ?_
    refine z_eqi (gi I 59 117) (Eq.trans (gi_wi_na _ _ _ _ (by decide)) (gi_wi_na _ _ _ _ (by decide))) ?_
    refine z_istore_n (lv' := [(0, .ref (G.2.2 + 57)), (1, .int (iv (gi I 59 116))), (2, .int (iv (gi I 59 117)))]) C dX10_undo_39 rfl (by decide) [1, 2, 0] rfl ?_
    refine z_iconst C dX10_undo_40 ?_
    refine z_istore_n (lv' := [(0, .ref (G.2.2 + 57)), (1, .int (iv (gi I 59 116))), (2, .int (iv (gi I 59 117))), (3, .int (iv (0)))]) C dX10_undo_41 rfl (by decide) [1, 2, 3, 0] rfl ?_
    have hE5 : Jz G σ p l e R s m args below meth c 4 0 0 (Qx (some (.int (iv ((fX10_undo (I, J)).1)))) (sh, (fX10_undo (I, J)).2.1, (fX10_undo (I, J)).2.2)) (sh, (cp (wi (wi I 57 0 0) 57 23 ((gi I 57 23) - 1)) 59 0 62 (7900 * (gi I 57 23 - 1)) 7900), J) 0 0 76 [(0, .ref (G.2.2 + 57)), (1, .int (iv (gi I 59 116))), (2, .int (iv (gi I 59 117)))] [] := by
      refine z_aload_n C dX10_undo_76 0 rfl ?_
      refine z_getR C dX10_undo_77 fX10_13 rfl (kd_57 hS) (r_57_14 hS) ?_
      refine z_bipush C dX10_undo_80 (by decide) ?_
      refine z_iload_n C dX10_undo_82 1 rfl ?_
      refine z_iast (q := 116) C dX10_undo_83 (ka_59 hS) rfl (by decide) ?_
      refine z_aload_n C dX10_undo_84 0 rfl ?_
      refine z_getR C dX10_undo_85 fX10_13 rfl (kd_57 hS) (r_57_14 hS) ?_
      refine z_bipush C dX10_undo_88 (by decide) ?_
      refine z_iload_n C dX10_undo_90 2 rfl ?_
      refine z_iast (q := 117) C dX10_undo_91 (ka_59 hS) rfl (by decide) ?_
      refine z_aload_n C dX10_undo_92 0 rfl ?_
      refine z_getI C dX10_undo_93 fX10_240 rfl (kd_57 hS) ?_
      refine z_eqi ((gi I 57 23) - 1) (Eq.trans (gi_wi_na _ _ _ _ (by decide)) (Eq.trans (gi_wi_na _ _ _ _ (by decide)) (Eq.trans (gi_fk (cp_fr (wi (wi I 57 0 0) 57 23 ((gi I 57 23) - 1)) 59 0 62 (7900 * (gi I 57 23 - 1)) 7900 57 23 (by decide))) (gi_wi_eq (x := (gi I 57 23) - 1) _ _ _ (by have := gi_rng I 57 23; omega))))) ?_
      have hf6 : fX10_undo (I, J) = ((gi I 57 23) - 1, (wi (wi (cp (wi (wi I 57 0 0) 57 23 ((gi I 57 23) - 1)) 59 0 62 (7900 * (gi I 57 23 - 1)) 7900) 59 116 (gi I 59 116)) 59 117 (gi I 59 117)), J) := (by simp only [fX10_undo, if_neg h1])
      exact z_ireturnx C dX10_undo_96 (by rw [hf6]) (by rw [hf6])
    have hL3 : ∀ (N2 : Nat) (k : Int), (0 ≤ k ∧ k ≤ 7900) → (7900 - k).toNat < N2 → Jz G σ p l e R s m args below meth c 4 0 0 (Qx (some (.int (iv ((fX10_undo (I, J)).1)))) (sh, (fX10_undo (I, J)).2.1, (fX10_undo (I, J)).2.2)) (sh, (cp (wi (wi I 57 0 0) 57 23 ((gi I 57 23) - 1)) 59 0 62 (7900 * (gi I 57 23 - 1)) k), J) 0 0 42 [(0, .ref (G.2.2 + 57)), (1, .int (iv (gi I 59 116))), (2, .int (iv (gi I 59 117))), (3, .int (iv (k)))] [] := by
      intro N2
      induction N2 with
      | zero => intro k hk hm; exact absurd hm (Nat.not_lt_zero _)
      | succ N2 ih4 =>
        intro k hk hm
        refine z_iload_n C dX10_undo_42 3 rfl ?_
        refine z_sipush C dX10_undo_43 (by decide) ?_
        refine z_icmp_ge 76 C dX10_undo_46 (by decide) (by omega) (by decide) (fun h7 => ?_) (fun h7 => ?_)
        ·
          have hcl : k = 7900 := by omega
          refine z_eqM (sh, (cp (wi (wi I 57 0 0) 57 23 ((gi I 57 23) - 1)) 59 0 62 (7900 * (gi I 57 23 - 1)) 7900), J) (memEq (by rw [show k = 7900 by omega]) rfl) ?_
          refine z_drop (lv' := [(0, .ref (G.2.2 + 57)), (1, .int (iv (gi I 59 116))), (2, .int (iv (gi I 59 117)))]) [0, 1, 2] rfl ?_
          exact hE5
        ·
          refine z_aload_n C dX10_undo_49 0 rfl ?_
          refine z_getR C dX10_undo_50 fX10_13 rfl (kd_57 hS) (r_57_14 hS) ?_
          refine z_iload_n C dX10_undo_53 3 rfl ?_
          refine z_aload_n C dX10_undo_54 0 rfl ?_
          refine z_getR C dX10_undo_55 fX10_23 rfl (kd_57 hS) (r_57_17 hS) ?_
          refine z_sipush C dX10_undo_58 (by decide) ?_
          refine z_aload_n C dX10_undo_61 0 rfl ?_
          refine z_getI C dX10_undo_62 fX10_240 rfl (kd_57 hS) ?_
          refine z_eqi ((gi I 57 23) - 1) (Eq.trans (gi_fk (cp_fr (wi (wi I 57 0 0) 57 23 ((gi I 57 23) - 1)) 59 0 62 (7900 * (gi I 57 23 - 1)) k 57 23 (by decide))) (gi_wi_eq (x := (gi I 57 23) - 1) _ _ _ (by have := gi_rng I 57 23; omega))) ?_
          refine z_imul C dX10_undo_65 ?_
          refine z_iload_n C dX10_undo_66 3 rfl ?_
          refine z_iadd C dX10_undo_67 ?_
          refine z_iald (q := ((7900 * ((gi I 57 23) - 1)) + k).toNat) C dX10_undo_68 (ka_62 hS) (by omega) (by omega) ?_
          refine z_eqi (gi I 62 (((7900 * ((gi I 57 23) - 1)) + k).toNat)) (Eq.trans (gi_fk (cp_fr (wi (wi I 57 0 0) 57 23 ((gi I 57 23) - 1)) 59 0 62 (7900 * (gi I 57 23 - 1)) k 62 (((7900 * ((gi I 57 23) - 1)) + k).toNat) (by simp))) (Eq.trans (gi_wi_na _ _ _ _ (by decide)) (gi_wi_na _ _ _ _ (by decide)))) ?_
          refine z_iast (q := (k).toNat) C dX10_undo_69 (ka_59 hS) (by omega) (by omega) ?_
          refine z_iinc (lv' := [(0, .ref (G.2.2 + 57)), (1, .int (iv (gi I 59 116))), (2, .int (iv (gi I 59 117))), (3, .int (iv (k + 1)))]) C dX10_undo_70 3 rfl (by decide) [1, 2, 3, 0] rfl ?_
          refine z_goto 42 C dX10_undo_73 (by decide) ?_
          refine z_eqM (sh, (cp (wi (wi I 57 0 0) 57 23 ((gi I 57 23) - 1)) 59 0 62 (7900 * (gi I 57 23 - 1)) (k + 1)), J) (memEq (cp_s (by omega) (by omega) (by decide) (by omega)) rfl) ?_
          exact ih4 (k + 1) (by omega) (by omega)
    refine z_eqM (sh, (cp (wi (wi I 57 0 0) 57 23 ((gi I 57 23) - 1)) 59 0 62 (7900 * (gi I 57 23 - 1)) 0), J) (memEq (cp_i _ _ _ _ _ (by omega)).symm rfl) ?_
    exact hL3 _ (0) (by omega) (Nat.lt_succ_self _)
  ·
    refine z_iconst C dX10_undo_12 ?_
    have hf8 : fX10_undo (I, J) = (-1, (wi I 57 0 0), J) := (by simp only [fX10_undo, if_pos h1])
    exact z_ireturnx C dX10_undo_13 (by rw [hf8]) (by rw [hf8])

noncomputable def fX10_image (w : Int) (S : Mi × Mj) : Bool × Mi × Mj :=
  match S with
  | (I, J) =>
    match fX10_lay ((wi I 57 0 0), J) with
    | (r1, I2, J3) =>
      if 0 ≤ w ∧ w ≤ 1 then
        (true, (wi (cp I2 61 (8140 * w) 59 0 8140) 66 ((w).toNat) 1), (cpj J3 65 (12 * w) 63 0 12))
      else
        (false, I2, J3)
theorem frX10_image {w : Int} {S : Mi × Mj} {r0 : Bool} {I0 : Mi} {J0 : Mj} (h : fX10_image w S = (r0, I0, J0)) (aq kq : Nat) (haq : aq ≠ 61 ∧ aq ≠ 66 ∧ ¬ (aq = 57 ∧ kq = 0) ∧ ¬ (aq = 57 ∧ kq = 22) ∧ ¬ (aq = 59 ∧ kq = 110) ∧ ¬ (aq = 59 ∧ kq = 111) ∧ ¬ (aq = 59 ∧ kq = 4) ∧ ¬ (aq = 59 ∧ kq = 5) ∧ ¬ (aq = 59 ∧ kq = 6)) : I0 aq kq = S.1 aq kq := by
  obtain ⟨I, J⟩ := S
  unfold fX10_image at h
  try simp only at h
  obtain ⟨⟨r1, I2, J3⟩, hq1⟩ : ∃ q, q = fX10_lay ((wi I 57 0 0), J) := ⟨_, rfl⟩
  rw [← hq1] at h; try simp only at h
  by_cases hq2 : 0 ≤ w ∧ w ≤ 1
  · simp only [if_pos hq2] at h
    simp only [Prod.mk.injEq] at h
    obtain ⟨-, hI, hJ⟩ := h
    exact (congrFun (congrFun hI aq) kq).symm.trans (Eq.trans (wi_nc _ _ (fun q => haq.2.1 q.1)) (Eq.trans (cp_fr I2 61 (8140 * w) 59 0 8140 aq kq haq.1) (Eq.trans (frX10_lay hq1.symm aq kq ⟨haq.2.2.2.1, haq.2.2.2.2.1, haq.2.2.2.2.2.1, haq.2.2.2.2.2.2.1, haq.2.2.2.2.2.2.2.1, haq.2.2.2.2.2.2.2.2⟩) (Eq.trans (wi_nc _ _ haq.2.2.1) rfl))))
  · simp only [if_neg hq2] at h
    simp only [Prod.mk.injEq] at h
    obtain ⟨-, hI, hJ⟩ := h
    exact (congrFun (congrFun hI aq) kq).symm.trans (Eq.trans (frX10_lay hq1.symm aq kq ⟨haq.2.2.2.1, haq.2.2.2.2.1, haq.2.2.2.2.2.1, haq.2.2.2.2.2.2.1, haq.2.2.2.2.2.2.2.1, haq.2.2.2.2.2.2.2.2⟩) (Eq.trans (wi_nc _ _ haq.2.2.1) rfl))
theorem fjX10_image {w : Int} {S : Mi × Mj} {r0 : Bool} {I0 : Mi} {J0 : Mj} (h : fX10_image w S = (r0, I0, J0)) (aq kq : Nat) (haq : aq ≠ 65) : J0 aq kq = S.2 aq kq := by
  obtain ⟨I, J⟩ := S
  unfold fX10_image at h
  try simp only at h
  obtain ⟨⟨r1, I2, J3⟩, hq1⟩ : ∃ q, q = fX10_lay ((wi I 57 0 0), J) := ⟨_, rfl⟩
  rw [← hq1] at h; try simp only at h
  by_cases hq2 : 0 ≤ w ∧ w ≤ 1
  · simp only [if_pos hq2] at h
    simp only [Prod.mk.injEq] at h
    obtain ⟨-, hI, hJ⟩ := h
    exact (congrFun (congrFun hJ aq) kq).symm.trans (Eq.trans (cpj_fr J3 65 (12 * w) 63 0 12 aq kq haq) (Eq.trans (fjX10_lay hq1.symm aq kq trivial) rfl))
  · simp only [if_neg hq2] at h
    simp only [Prod.mk.injEq] at h
    obtain ⟨-, hI, hJ⟩ := h
    exact (congrFun (congrFun hJ aq) kq).symm.trans (Eq.trans (fjX10_lay hq1.symm aq kq trivial) rfl)
set_option maxHeartbeats 4000000 in
set_option maxRecDepth 100000 in
theorem qX10_image {G : Gx} {σ : State} (hC : Cz G σ) {sh : Sh} {I : Mi} {J : Mj} (w : Int) (hS : St sh) (rw : -2147483648 ≤ w ∧ w < 2147483648) : Ce G σ 3 yX10_image cX10_image 3 (some .boolean) [.ref (G.2.2 + 57), .int (iv (w))] (sh, I, J) 0 0 (some (.int (iv (b2 ((fX10_image w (I, J)).1 = true))))) (sh, (fX10_image w (I, J)).2.1, (fX10_image w (I, J)).2.2) := by
  refine Ct.of hC (by decide +kernel) (Nat.le_of_ble_eq_true rfl) ?_
  intro p l e R s m args below meth c C
  show Jz G σ p l e R s m args below meth c 3 0 0 (Qx (some (.int (iv (b2 ((fX10_image w (I, J)).1 = true))))) (sh, (fX10_image w (I, J)).2.1, (fX10_image w (I, J)).2.2)) (sh, I, J) 0 0 0 [(0, .ref (G.2.2 + 57)), (1, .int (iv (w)))] []
  refine z_aload_n C dX10_image_0 0 rfl ?_
  refine z_iconst C dX10_image_1 ?_
  refine z_putI C dX10_image_2 fX10_83 rfl rfl (kd_57 hS) rfl rfl ?_
  refine z_aload_n C dX10_image_5 0 rfl ?_
  refine z_cVvF (st := []) (F := fX10_lay ((wi I 57 0 0), J)) C dX10_image_6 mX10_167 (kd_57 hS) (qX10_lay hC  hS) rfl rfl (Nat.le_of_ble_eq_true rfl) (by decide) (fun r1 I2 J3 hT4 => ?_)
  refine z_iload_n C dX10_image_9 1 rfl ?_
  refine z_iconst C dX10_image_10 ?_
  refine z_iconst C dX10_image_11 ?_
  refine z_cSi (st := []) C dX10_image_12 mX10_154 (qX10_isIn hC w 0 1 rw (by omega) (by omega)) rfl rfl (Nat.le_of_ble_eq_true rfl) (by decide) ?_
  refine z_if_ne_b 20 C dX10_image_15 (by decide) (fun h5 => ?_) (fun h5 => ?_)
  ·
    refine z_iconst C dX10_image_20 ?_
    refine z_istore_n (lv' := [(0, .ref (G.2.2 + 57)), (1, .int (iv (w))), (2, .int (iv (0)))]) C dX10_image_21 rfl (by decide) [1, 2, 0] rfl ?_
    have hE9 : Jz G σ p l e R s m args below meth c 3 0 0 (Qx (some (.int (iv (b2 ((fX10_image w (I, J)).1 = true))))) (sh, (fX10_image w (I, J)).2.1, (fX10_image w (I, J)).2.2)) (sh, (cp I2 61 (8140 * w) 59 0 8140), J3) 0 0 53 [(0, .ref (G.2.2 + 57)), (1, .int (iv (w)))] [] := by
      refine z_iconst C dX10_image_53 ?_
      refine z_istore_n (lv' := [(0, .ref (G.2.2 + 57)), (1, .int (iv (w))), (2, .int (iv (0)))]) C dX10_image_54 rfl (by decide) [1, 2, 0] rfl ?_
      have hE13 : Jz G σ p l e R s m args below meth c 3 0 0 (Qx (some (.int (iv (b2 ((fX10_image w (I, J)).1 = true))))) (sh, (fX10_image w (I, J)).2.1, (fX10_image w (I, J)).2.2)) (sh, (cp I2 61 (8140 * w) 59 0 8140), (cpj J3 65 (12 * w) 63 0 12)) 0 0 84 [(0, .ref (G.2.2 + 57)), (1, .int (iv (w)))] [] := by
        refine z_aload_n C dX10_image_84 0 rfl ?_
        refine z_getR C dX10_image_85 fX10_36 rfl (kd_57 hS) (r_57_21 hS) ?_
        refine z_iload_n C dX10_image_88 1 rfl ?_
        refine z_iconst C dX10_image_89 ?_
        refine z_zast (q := (w).toNat) C dX10_image_90 (ka_66 hS) (by omega) (by omega) rfl ?_
        refine z_iconst C dX10_image_91 ?_
        have hf14 : fX10_image w (I, J) = (true, (wi (cp I2 61 (8140 * w) 59 0 8140) 66 ((w).toNat) 1), (cpj J3 65 (12 * w) 63 0 12)) := (by simp only [fX10_image, hT4, if_pos h5])
        exact z_zreturnx C dX10_image_92 rfl (by rw [hf14]; rfl) (by rw [hf14])
      have hL11 : ∀ (N10 : Nat) (k : Int), (0 ≤ k ∧ k ≤ 12) → (12 - k).toNat < N10 → Jz G σ p l e R s m args below meth c 3 0 0 (Qx (some (.int (iv (b2 ((fX10_image w (I, J)).1 = true))))) (sh, (fX10_image w (I, J)).2.1, (fX10_image w (I, J)).2.2)) (sh, (cp I2 61 (8140 * w) 59 0 8140), (cpj J3 65 (12 * w) 63 0 k)) 0 0 55 [(0, .ref (G.2.2 + 57)), (1, .int (iv (w))), (2, .int (iv (k)))] [] := by
        intro N10
        induction N10 with
        | zero => intro k hk hm; exact absurd hm (Nat.not_lt_zero _)
        | succ N10 ih12 =>
          intro k hk hm
          refine z_iload_n C dX10_image_55 2 rfl ?_
          refine z_bipush C dX10_image_56 (by decide) ?_
          refine z_icmp_ge 84 C dX10_image_58 (by decide) (by omega) (by decide) (fun h15 => ?_) (fun h15 => ?_)
          ·
            have hcl : k = 12 := by omega
            refine z_eqM (sh, (cp I2 61 (8140 * w) 59 0 8140), (cpj J3 65 (12 * w) 63 0 12)) (memEq rfl (by rw [show k = 12 by omega])) ?_
            refine z_drop (lv' := [(0, .ref (G.2.2 + 57)), (1, .int (iv (w)))]) [0, 1] rfl ?_
            exact hE13
          ·
            refine z_aload_n C dX10_image_61 0 rfl ?_
            refine z_getR C dX10_image_62 fX10_33 rfl (kd_57 hS) (r_57_20 hS) ?_
            refine z_bipush C dX10_image_65 (by decide) ?_
            refine z_iload_n C dX10_image_67 1 rfl ?_
            refine z_imul C dX10_image_68 ?_
            refine z_iload_n C dX10_image_69 2 rfl ?_
            refine z_iadd C dX10_image_70 ?_
            refine z_aload_n C dX10_image_71 0 rfl ?_
            refine z_getR C dX10_image_72 fX10_26 rfl (kd_57 hS) (r_57_18 hS) ?_
            refine z_iload_n C dX10_image_75 2 rfl ?_
            refine z_lald (q := (k).toNat) C dX10_image_76 (ka_63 hS) (by omega) (by omega) ?_
            refine z_eql (gj J3 63 ((k).toNat)) (gj_fk (cpj_fr J3 65 (12 * w) 63 0 k 63 ((k).toNat) (by simp))) ?_
            refine z_last (q := ((12 * w) + k).toNat) C dX10_image_77 (ka_65 hS) (by omega) (by omega) ?_
            refine z_iinc (lv' := [(0, .ref (G.2.2 + 57)), (1, .int (iv (w))), (2, .int (iv (k + 1)))]) C dX10_image_78 2 rfl (by decide) [1, 2, 0] rfl ?_
            refine z_goto 55 C dX10_image_81 (by decide) ?_
            refine z_eqM (sh, (cp I2 61 (8140 * w) 59 0 8140), (cpj J3 65 (12 * w) 63 0 (k + 1))) (memEq rfl (cpj_s (by omega) (by omega) (by omega) (by omega))) ?_
            exact ih12 (k + 1) (by omega) (by omega)
      refine z_eqM (sh, (cp I2 61 (8140 * w) 59 0 8140), (cpj J3 65 (12 * w) 63 0 0)) (memEq rfl (cpj_i _ _ _ _ _ (by omega)).symm) ?_
      exact hL11 _ (0) (by omega) (Nat.lt_succ_self _)
    have hL7 : ∀ (N6 : Nat) (k : Int), (0 ≤ k ∧ k ≤ 8140) → (8140 - k).toNat < N6 → Jz G σ p l e R s m args below meth c 3 0 0 (Qx (some (.int (iv (b2 ((fX10_image w (I, J)).1 = true))))) (sh, (fX10_image w (I, J)).2.1, (fX10_image w (I, J)).2.2)) (sh, (cp I2 61 (8140 * w) 59 0 k), J3) 0 0 22 [(0, .ref (G.2.2 + 57)), (1, .int (iv (w))), (2, .int (iv (k)))] [] := by
      intro N6
      induction N6 with
      | zero => intro k hk hm; exact absurd hm (Nat.not_lt_zero _)
      | succ N6 ih8 =>
        intro k hk hm
        refine z_iload_n C dX10_image_22 2 rfl ?_
        refine z_sipush C dX10_image_23 (by decide) ?_
        refine z_icmp_ge 53 C dX10_image_26 (by decide) (by omega) (by decide) (fun h16 => ?_) (fun h16 => ?_)
        ·
          have hcl : k = 8140 := by omega
          refine z_eqM (sh, (cp I2 61 (8140 * w) 59 0 8140), J3) (memEq (by rw [show k = 8140 by omega]) rfl) ?_
          refine z_drop (lv' := [(0, .ref (G.2.2 + 57)), (1, .int (iv (w)))]) [0, 1] rfl ?_
          exact hE9
        ·
          refine z_aload_n C dX10_image_29 0 rfl ?_
          refine z_getR C dX10_image_30 fX10_19 rfl (kd_57 hS) (r_57_16 hS) ?_
          refine z_sipush C dX10_image_33 (by decide) ?_
          refine z_iload_n C dX10_image_36 1 rfl ?_
          refine z_imul C dX10_image_37 ?_
          refine z_iload_n C dX10_image_38 2 rfl ?_
          refine z_iadd C dX10_image_39 ?_
          refine z_aload_n C dX10_image_40 0 rfl ?_
          refine z_getR C dX10_image_41 fX10_13 rfl (kd_57 hS) (r_57_14 hS) ?_
          refine z_iload_n C dX10_image_44 2 rfl ?_
          refine z_iald (q := (k).toNat) C dX10_image_45 (ka_59 hS) (by omega) (by omega) ?_
          refine z_eqi (gi I2 59 ((k).toNat)) (gi_fk (cp_fr I2 61 (8140 * w) 59 0 k 59 ((k).toNat) (by simp))) ?_
          refine z_iast (q := ((8140 * w) + k).toNat) C dX10_image_46 (ka_61 hS) (by omega) (by omega) ?_
          refine z_iinc (lv' := [(0, .ref (G.2.2 + 57)), (1, .int (iv (w))), (2, .int (iv (k + 1)))]) C dX10_image_47 2 rfl (by decide) [1, 2, 0] rfl ?_
          refine z_goto 22 C dX10_image_50 (by decide) ?_
          refine z_eqM (sh, (cp I2 61 (8140 * w) 59 0 (k + 1)), J3) (memEq (cp_s (by omega) (by omega) (by omega) (by omega)) rfl) ?_
          exact ih8 (k + 1) (by omega) (by omega)
    refine z_eqM (sh, (cp I2 61 (8140 * w) 59 0 0), J3) (memEq (cp_i _ _ _ _ _ (by omega)).symm rfl) ?_
    exact hL7 _ (0) (by omega) (Nat.lt_succ_self _)
  ·
    refine z_iconst C dX10_image_18 ?_
    have hf17 : fX10_image w (I, J) = (false, I2, J3) := (by simp only [fX10_image, hT4, if_neg h5])
    exact z_zreturnx C dX10_image_19 rfl (by rw [hf17]; rfl) (by rw [hf17])

noncomputable def fX10_restore (w : Int) (S : Mi × Mj) : Bool × Mi × Mj :=
  match S with
  | (I, J) =>
    match fX10_lay ((wi I 57 0 0), J) with
    | (r1, I2, J3) =>
      if 0 ≤ w ∧ w ≤ 1 then
        if (gi I 66 ((w).toNat)) = 0 then
          (false, I2, J3)
        else
          (true, (wi (cp I2 59 0 61 (8140 * w) 8140) 57 23 0), (cpj J3 63 0 65 (12 * w) 12))
      else
        (false, I2, J3)
theorem frX10_restore {w : Int} {S : Mi × Mj} {r0 : Bool} {I0 : Mi} {J0 : Mj} (h : fX10_restore w S = (r0, I0, J0)) (aq kq : Nat) (haq : aq ≠ 59 ∧ ¬ (aq = 57 ∧ kq = 0) ∧ ¬ (aq = 57 ∧ kq = 22) ∧ ¬ (aq = 57 ∧ kq = 23)) : I0 aq kq = S.1 aq kq := by
  obtain ⟨I, J⟩ := S
  unfold fX10_restore at h
  try simp only at h
  obtain ⟨⟨r1, I2, J3⟩, hq1⟩ : ∃ q, q = fX10_lay ((wi I 57 0 0), J) := ⟨_, rfl⟩
  rw [← hq1] at h; try simp only at h
  by_cases hq2 : 0 ≤ w ∧ w ≤ 1
  · simp only [if_pos hq2] at h
    by_cases hq3 : (gi I 66 ((w).toNat)) = 0
    · simp only [if_pos hq3] at h
      simp only [Prod.mk.injEq] at h
      obtain ⟨-, hI, hJ⟩ := h
      exact (congrFun (congrFun hI aq) kq).symm.trans (Eq.trans (frX10_lay hq1.symm aq kq ⟨haq.2.2.1, (fun q => haq.1 q.1), (fun q => haq.1 q.1), (fun q => haq.1 q.1), (fun q => haq.1 q.1), (fun q => haq.1 q.1)⟩) (Eq.trans (wi_nc _ _ haq.2.1) rfl))
    · simp only [if_neg hq3] at h
      simp only [Prod.mk.injEq] at h
      obtain ⟨-, hI, hJ⟩ := h
      exact (congrFun (congrFun hI aq) kq).symm.trans (Eq.trans (wi_nc _ _ haq.2.2.2) (Eq.trans (cp_fr I2 59 0 61 (8140 * w) 8140 aq kq haq.1) (Eq.trans (frX10_lay hq1.symm aq kq ⟨haq.2.2.1, (fun q => haq.1 q.1), (fun q => haq.1 q.1), (fun q => haq.1 q.1), (fun q => haq.1 q.1), (fun q => haq.1 q.1)⟩) (Eq.trans (wi_nc _ _ haq.2.1) rfl))))
  · simp only [if_neg hq2] at h
    simp only [Prod.mk.injEq] at h
    obtain ⟨-, hI, hJ⟩ := h
    exact (congrFun (congrFun hI aq) kq).symm.trans (Eq.trans (frX10_lay hq1.symm aq kq ⟨haq.2.2.1, (fun q => haq.1 q.1), (fun q => haq.1 q.1), (fun q => haq.1 q.1), (fun q => haq.1 q.1), (fun q => haq.1 q.1)⟩) (Eq.trans (wi_nc _ _ haq.2.1) rfl))
theorem fjX10_restore {w : Int} {S : Mi × Mj} {r0 : Bool} {I0 : Mi} {J0 : Mj} (h : fX10_restore w S = (r0, I0, J0)) (aq kq : Nat) (haq : aq ≠ 63) : J0 aq kq = S.2 aq kq := by
  obtain ⟨I, J⟩ := S
  unfold fX10_restore at h
  try simp only at h
  obtain ⟨⟨r1, I2, J3⟩, hq1⟩ : ∃ q, q = fX10_lay ((wi I 57 0 0), J) := ⟨_, rfl⟩
  rw [← hq1] at h; try simp only at h
  by_cases hq2 : 0 ≤ w ∧ w ≤ 1
  · simp only [if_pos hq2] at h
    by_cases hq3 : (gi I 66 ((w).toNat)) = 0
    · simp only [if_pos hq3] at h
      simp only [Prod.mk.injEq] at h
      obtain ⟨-, hI, hJ⟩ := h
      exact (congrFun (congrFun hJ aq) kq).symm.trans (Eq.trans (fjX10_lay hq1.symm aq kq trivial) rfl)
    · simp only [if_neg hq3] at h
      simp only [Prod.mk.injEq] at h
      obtain ⟨-, hI, hJ⟩ := h
      exact (congrFun (congrFun hJ aq) kq).symm.trans (Eq.trans (cpj_fr J3 63 0 65 (12 * w) 12 aq kq haq) (Eq.trans (fjX10_lay hq1.symm aq kq trivial) rfl))
  · simp only [if_neg hq2] at h
    simp only [Prod.mk.injEq] at h
    obtain ⟨-, hI, hJ⟩ := h
    exact (congrFun (congrFun hJ aq) kq).symm.trans (Eq.trans (fjX10_lay hq1.symm aq kq trivial) rfl)
set_option maxHeartbeats 4000000 in
set_option maxRecDepth 100000 in
theorem qX10_restore {G : Gx} {σ : State} (hC : Cz G σ) {sh : Sh} {I : Mi} {J : Mj} (w : Int) (hS : St sh) (rw : -2147483648 ≤ w ∧ w < 2147483648) : Ce G σ 3 yX10_restore cX10_restore 3 (some .boolean) [.ref (G.2.2 + 57), .int (iv (w))] (sh, I, J) 0 0 (some (.int (iv (b2 ((fX10_restore w (I, J)).1 = true))))) (sh, (fX10_restore w (I, J)).2.1, (fX10_restore w (I, J)).2.2) := by
  refine Ct.of hC (by decide +kernel) (Nat.le_of_ble_eq_true rfl) ?_
  intro p l e R s m args below meth c C
  show Jz G σ p l e R s m args below meth c 3 0 0 (Qx (some (.int (iv (b2 ((fX10_restore w (I, J)).1 = true))))) (sh, (fX10_restore w (I, J)).2.1, (fX10_restore w (I, J)).2.2)) (sh, I, J) 0 0 0 [(0, .ref (G.2.2 + 57)), (1, .int (iv (w)))] []
  refine z_aload_n C dX10_restore_0 0 rfl ?_
  refine z_iconst C dX10_restore_1 ?_
  refine z_putI C dX10_restore_2 fX10_83 rfl rfl (kd_57 hS) rfl rfl ?_
  refine z_aload_n C dX10_restore_5 0 rfl ?_
  refine z_cVvF (st := []) (F := fX10_lay ((wi I 57 0 0), J)) C dX10_restore_6 mX10_167 (kd_57 hS) (qX10_lay hC  hS) rfl rfl (Nat.le_of_ble_eq_true rfl) (by decide) (fun r1 I2 J3 hT4 => ?_)
  refine z_iload_n C dX10_restore_9 1 rfl ?_
  refine z_iconst C dX10_restore_10 ?_
  refine z_iconst C dX10_restore_11 ?_
  refine z_cSi (st := []) C dX10_restore_12 mX10_154 (qX10_isIn hC w 0 1 rw (by omega) (by omega)) rfl rfl (Nat.le_of_ble_eq_true rfl) (by decide) ?_
  refine z_if_eq_b 27 C dX10_restore_15 (by decide) (fun h5 => ?_) (fun h5 => ?_)
  ·
    refine z_iconst C dX10_restore_27 ?_
    have hf6 : fX10_restore w (I, J) = (false, I2, J3) := (by simp only [fX10_restore, hT4, if_neg h5])
    exact z_zreturnx C dX10_restore_28 rfl (by rw [hf6]; rfl) (by rw [hf6])
  ·
    refine z_aload_n C dX10_restore_18 0 rfl ?_
    refine z_getR C dX10_restore_19 fX10_36 rfl (kd_57 hS) (r_57_21 hS) ?_
    refine z_iload_n C dX10_restore_22 1 rfl ?_
    refine z_zald (q := (w).toNat) C dX10_restore_23 (ka_66 hS) (by omega) (by omega) ?_
    refine z_eqi (gi I 66 ((w).toNat)) (Eq.trans (gi_fk (frX10_lay hT4 66 ((w).toNat) (by simp))) (gi_wi_na _ _ _ _ (by decide))) ?_
    refine z_if_ne 29 C dX10_restore_24 (by decide) (gi_rng _ _ _) (fun h7 => ?_) (fun h7 => ?_)
    ·
      refine z_iconst C dX10_restore_29 ?_
      refine z_istore_n (lv' := [(0, .ref (G.2.2 + 57)), (1, .int (iv (w))), (2, .int (iv (0)))]) C dX10_restore_30 rfl (by decide) [1, 2, 0] rfl ?_
      have hE11 : Jz G σ p l e R s m args below meth c 3 0 0 (Qx (some (.int (iv (b2 ((fX10_restore w (I, J)).1 = true))))) (sh, (fX10_restore w (I, J)).2.1, (fX10_restore w (I, J)).2.2)) (sh, (cp I2 59 0 61 (8140 * w) 8140), J3) 0 0 62 [(0, .ref (G.2.2 + 57)), (1, .int (iv (w)))] [] := by
        refine z_iconst C dX10_restore_62 ?_
        refine z_istore_n (lv' := [(0, .ref (G.2.2 + 57)), (1, .int (iv (w))), (2, .int (iv (0)))]) C dX10_restore_63 rfl (by decide) [1, 2, 0] rfl ?_
        have hE15 : Jz G σ p l e R s m args below meth c 3 0 0 (Qx (some (.int (iv (b2 ((fX10_restore w (I, J)).1 = true))))) (sh, (fX10_restore w (I, J)).2.1, (fX10_restore w (I, J)).2.2)) (sh, (cp I2 59 0 61 (8140 * w) 8140), (cpj J3 63 0 65 (12 * w) 12)) 0 0 93 [(0, .ref (G.2.2 + 57)), (1, .int (iv (w)))] [] := by
          refine z_aload_n C dX10_restore_93 0 rfl ?_
          refine z_iconst C dX10_restore_94 ?_
          refine z_putI C dX10_restore_95 fX10_240 rfl rfl (kd_57 hS) rfl rfl ?_
          refine z_iconst C dX10_restore_98 ?_
          have hf16 : fX10_restore w (I, J) = (true, (wi (cp I2 59 0 61 (8140 * w) 8140) 57 23 0), (cpj J3 63 0 65 (12 * w) 12)) := (by simp only [fX10_restore, hT4, if_pos h5, if_neg h7])
          exact z_zreturnx C dX10_restore_99 rfl (by rw [hf16]; rfl) (by rw [hf16])
        have hL13 : ∀ (N12 : Nat) (k : Int), (0 ≤ k ∧ k ≤ 12) → (12 - k).toNat < N12 → Jz G σ p l e R s m args below meth c 3 0 0 (Qx (some (.int (iv (b2 ((fX10_restore w (I, J)).1 = true))))) (sh, (fX10_restore w (I, J)).2.1, (fX10_restore w (I, J)).2.2)) (sh, (cp I2 59 0 61 (8140 * w) 8140), (cpj J3 63 0 65 (12 * w) k)) 0 0 64 [(0, .ref (G.2.2 + 57)), (1, .int (iv (w))), (2, .int (iv (k)))] [] := by
          intro N12
          induction N12 with
          | zero => intro k hk hm; exact absurd hm (Nat.not_lt_zero _)
          | succ N12 ih14 =>
            intro k hk hm
            refine z_iload_n C dX10_restore_64 2 rfl ?_
            refine z_bipush C dX10_restore_65 (by decide) ?_
            refine z_icmp_ge 93 C dX10_restore_67 (by decide) (by omega) (by decide) (fun h17 => ?_) (fun h17 => ?_)
            ·
              have hcl : k = 12 := by omega
              refine z_eqM (sh, (cp I2 59 0 61 (8140 * w) 8140), (cpj J3 63 0 65 (12 * w) 12)) (memEq rfl (by rw [show k = 12 by omega])) ?_
              refine z_drop (lv' := [(0, .ref (G.2.2 + 57)), (1, .int (iv (w)))]) [0, 1] rfl ?_
              exact hE15
            ·
              refine z_aload_n C dX10_restore_70 0 rfl ?_
              refine z_getR C dX10_restore_71 fX10_26 rfl (kd_57 hS) (r_57_18 hS) ?_
              refine z_iload_n C dX10_restore_74 2 rfl ?_
              refine z_aload_n C dX10_restore_75 0 rfl ?_
              refine z_getR C dX10_restore_76 fX10_33 rfl (kd_57 hS) (r_57_20 hS) ?_
              refine z_bipush C dX10_restore_79 (by decide) ?_
              refine z_iload_n C dX10_restore_81 1 rfl ?_
              refine z_imul C dX10_restore_82 ?_
              refine z_iload_n C dX10_restore_83 2 rfl ?_
              refine z_iadd C dX10_restore_84 ?_
              refine z_lald (q := ((12 * w) + k).toNat) C dX10_restore_85 (ka_65 hS) (by omega) (by omega) ?_
              refine z_eql (gj J3 65 (((12 * w) + k).toNat)) (gj_fk (cpj_fr J3 63 0 65 (12 * w) k 65 (((12 * w) + k).toNat) (by simp))) ?_
              refine z_last (q := (k).toNat) C dX10_restore_86 (ka_63 hS) (by omega) (by omega) ?_
              refine z_iinc (lv' := [(0, .ref (G.2.2 + 57)), (1, .int (iv (w))), (2, .int (iv (k + 1)))]) C dX10_restore_87 2 rfl (by decide) [1, 2, 0] rfl ?_
              refine z_goto 64 C dX10_restore_90 (by decide) ?_
              refine z_eqM (sh, (cp I2 59 0 61 (8140 * w) 8140), (cpj J3 63 0 65 (12 * w) (k + 1))) (memEq rfl (cpj_s (by omega) (by omega) (by decide) (by omega))) ?_
              exact ih14 (k + 1) (by omega) (by omega)
        refine z_eqM (sh, (cp I2 59 0 61 (8140 * w) 8140), (cpj J3 63 0 65 (12 * w) 0)) (memEq rfl (cpj_i _ _ _ _ _ (by omega)).symm) ?_
        exact hL13 _ (0) (by omega) (Nat.lt_succ_self _)
      have hL9 : ∀ (N8 : Nat) (k : Int), (0 ≤ k ∧ k ≤ 8140) → (8140 - k).toNat < N8 → Jz G σ p l e R s m args below meth c 3 0 0 (Qx (some (.int (iv (b2 ((fX10_restore w (I, J)).1 = true))))) (sh, (fX10_restore w (I, J)).2.1, (fX10_restore w (I, J)).2.2)) (sh, (cp I2 59 0 61 (8140 * w) k), J3) 0 0 31 [(0, .ref (G.2.2 + 57)), (1, .int (iv (w))), (2, .int (iv (k)))] [] := by
        intro N8
        induction N8 with
        | zero => intro k hk hm; exact absurd hm (Nat.not_lt_zero _)
        | succ N8 ih10 =>
          intro k hk hm
          refine z_iload_n C dX10_restore_31 2 rfl ?_
          refine z_sipush C dX10_restore_32 (by decide) ?_
          refine z_icmp_ge 62 C dX10_restore_35 (by decide) (by omega) (by decide) (fun h18 => ?_) (fun h18 => ?_)
          ·
            have hcl : k = 8140 := by omega
            refine z_eqM (sh, (cp I2 59 0 61 (8140 * w) 8140), J3) (memEq (by rw [show k = 8140 by omega]) rfl) ?_
            refine z_drop (lv' := [(0, .ref (G.2.2 + 57)), (1, .int (iv (w)))]) [0, 1] rfl ?_
            exact hE11
          ·
            refine z_aload_n C dX10_restore_38 0 rfl ?_
            refine z_getR C dX10_restore_39 fX10_13 rfl (kd_57 hS) (r_57_14 hS) ?_
            refine z_iload_n C dX10_restore_42 2 rfl ?_
            refine z_aload_n C dX10_restore_43 0 rfl ?_
            refine z_getR C dX10_restore_44 fX10_19 rfl (kd_57 hS) (r_57_16 hS) ?_
            refine z_sipush C dX10_restore_47 (by decide) ?_
            refine z_iload_n C dX10_restore_50 1 rfl ?_
            refine z_imul C dX10_restore_51 ?_
            refine z_iload_n C dX10_restore_52 2 rfl ?_
            refine z_iadd C dX10_restore_53 ?_
            refine z_iald (q := ((8140 * w) + k).toNat) C dX10_restore_54 (ka_61 hS) (by omega) (by omega) ?_
            refine z_eqi (gi I2 61 (((8140 * w) + k).toNat)) (gi_fk (cp_fr I2 59 0 61 (8140 * w) k 61 (((8140 * w) + k).toNat) (by simp))) ?_
            refine z_iast (q := (k).toNat) C dX10_restore_55 (ka_59 hS) (by omega) (by omega) ?_
            refine z_iinc (lv' := [(0, .ref (G.2.2 + 57)), (1, .int (iv (w))), (2, .int (iv (k + 1)))]) C dX10_restore_56 2 rfl (by decide) [1, 2, 0] rfl ?_
            refine z_goto 31 C dX10_restore_59 (by decide) ?_
            refine z_eqM (sh, (cp I2 59 0 61 (8140 * w) (k + 1)), J3) (memEq (cp_s (by omega) (by omega) (by decide) (by omega)) rfl) ?_
            exact ih10 (k + 1) (by omega) (by omega)
      refine z_eqM (sh, (cp I2 59 0 61 (8140 * w) 0), J3) (memEq (cp_i _ _ _ _ _ (by omega)).symm rfl) ?_
      exact hL9 _ (0) (by omega) (Nat.lt_succ_self _)
    ·
      refine z_iconst C dX10_restore_27 ?_
      have hf19 : fX10_restore w (I, J) = (false, I2, J3) := (by simp only [fX10_restore, hT4, if_pos h5, if_pos h7])
      exact z_zreturnx C dX10_restore_28 rfl (by rw [hf19]; rfl) (by rw [hf19])

noncomputable def fX10_lays (w1 : Int) (w2 : Int) (w3 : Int) (w4 : Int) (S : Mi × Mj) : Int × Mi × Mj :=
  match S with
  | (I, J) =>
    match 4 * (gi I 57 43) with
    | b =>
      (((gi I 57 43) + 1) - 1, (wi (wi (wi (wi (wi I 79 ((b).toNat) w1) 79 ((b + 1).toNat) w2) 79 ((b + 2).toNat) w3) 79 ((b + 3).toNat) w4) 57 43 ((gi I 57 43) + 1)), J)
theorem frX10_lays {w1 : Int} {w2 : Int} {w3 : Int} {w4 : Int} {S : Mi × Mj} {r0 : Int} {I0 : Mi} {J0 : Mj} (h : fX10_lays w1 w2 w3 w4 S = (r0, I0, J0)) (aq kq : Nat) (haq : aq ≠ 79 ∧ ¬ (aq = 57 ∧ kq = 43)) : I0 aq kq = S.1 aq kq := by
  obtain ⟨I, J⟩ := S
  unfold fX10_lays at h
  try simp only at h
  obtain ⟨b, hq1⟩ : ∃ q, q = 4 * (gi I 57 43) := ⟨_, rfl⟩
  try rw [← hq1] at h
  try simp only at h
  simp only [Prod.mk.injEq] at h
  obtain ⟨-, hI, hJ⟩ := h
  exact (congrFun (congrFun hI aq) kq).symm.trans (Eq.trans (wi_nc _ _ haq.2) (Eq.trans (wi_nc _ _ (fun q => haq.1 q.1)) (Eq.trans (wi_nc _ _ (fun q => haq.1 q.1)) (Eq.trans (wi_nc _ _ (fun q => haq.1 q.1)) (Eq.trans (wi_nc _ _ (fun q => haq.1 q.1)) rfl)))))
theorem fjX10_lays {w1 : Int} {w2 : Int} {w3 : Int} {w4 : Int} {S : Mi × Mj} {r0 : Int} {I0 : Mi} {J0 : Mj} (h : fX10_lays w1 w2 w3 w4 S = (r0, I0, J0)) (aq kq : Nat) (haq : True) : J0 aq kq = S.2 aq kq := by
  obtain ⟨I, J⟩ := S
  unfold fX10_lays at h
  try simp only at h
  obtain ⟨b, hq1⟩ : ∃ q, q = 4 * (gi I 57 43) := ⟨_, rfl⟩
  try rw [← hq1] at h
  try simp only at h
  simp only [Prod.mk.injEq] at h
  obtain ⟨-, hI, hJ⟩ := h
  exact (congrFun (congrFun hJ aq) kq).symm.trans rfl
set_option maxHeartbeats 4000000 in
set_option maxRecDepth 100000 in
theorem qX10_lays {G : Gx} {σ : State} (hC : Cz G σ) {sh : Sh} {I : Mi} {J : Mj} (w1 w2 w3 w4 : Int) (hS : St sh) (hnd : 0 ≤ gi I 57 43 ∧ gi I 57 43 < 60) : Ce G σ 1 yX10_lays cX10_lays 6 (some .int) [.ref (G.2.2 + 57), .int (iv (w1)), .int (iv (w2)), .int (iv (w3)), .int (iv (w4))] (sh, I, J) 0 0 (some (.int (iv ((fX10_lays w1 w2 w3 w4 (I, J)).1)))) (sh, (fX10_lays w1 w2 w3 w4 (I, J)).2.1, (fX10_lays w1 w2 w3 w4 (I, J)).2.2) := by
  refine Ct.of hC (by decide +kernel) (Nat.le_of_ble_eq_true rfl) ?_
  intro p l e R s m args below meth c C
  show Jz G σ p l e R s m args below meth c 6 0 0 (Qx (some (.int (iv ((fX10_lays w1 w2 w3 w4 (I, J)).1)))) (sh, (fX10_lays w1 w2 w3 w4 (I, J)).2.1, (fX10_lays w1 w2 w3 w4 (I, J)).2.2)) (sh, I, J) 0 0 0 [(0, .ref (G.2.2 + 57)), (1, .int (iv (w1))), (2, .int (iv (w2))), (3, .int (iv (w3))), (4, .int (iv (w4)))] []
  refine z_iconst C dX10_lays_0 ?_
  refine z_aload_n C dX10_lays_1 0 rfl ?_
  refine z_getI C dX10_lays_2 fX10_362 rfl (kd_57 hS) ?_
  refine z_imul C dX10_lays_5 ?_
  refine z_nami (fun b hb => ?_)
  refine z_istore (lv' := [(0, .ref (G.2.2 + 57)), (1, .int (iv (w1))), (2, .int (iv (w2))), (3, .int (iv (w3))), (4, .int (iv (w4))), (5, .int (iv (b)))]) C dX10_lays_6 (by decide) [1, 2, 3, 4, 5, 0] rfl ?_
  refine z_aload_n C dX10_lays_8 0 rfl ?_
  refine z_getR C dX10_lays_9 fX10_80 rfl (kd_57 hS) (r_57_42 hS) ?_
  refine z_iload C dX10_lays_12 5 rfl ?_
  refine z_iload_n C dX10_lays_14 1 rfl ?_
  refine z_iast (q := (b).toNat) C dX10_lays_15 (ka_79 hS) (by omega) (by omega) ?_
  refine z_aload_n C dX10_lays_16 0 rfl ?_
  refine z_getR C dX10_lays_17 fX10_80 rfl (kd_57 hS) (r_57_42 hS) ?_
  refine z_iload C dX10_lays_20 5 rfl ?_
  refine z_iconst C dX10_lays_22 ?_
  refine z_iadd C dX10_lays_23 ?_
  refine z_iload_n C dX10_lays_24 2 rfl ?_
  refine z_iast (q := (b + 1).toNat) C dX10_lays_25 (ka_79 hS) (by omega) (by omega) ?_
  refine z_aload_n C dX10_lays_26 0 rfl ?_
  refine z_getR C dX10_lays_27 fX10_80 rfl (kd_57 hS) (r_57_42 hS) ?_
  refine z_iload C dX10_lays_30 5 rfl ?_
  refine z_iconst C dX10_lays_32 ?_
  refine z_iadd C dX10_lays_33 ?_
  refine z_iload_n C dX10_lays_34 3 rfl ?_
  refine z_iast (q := (b + 2).toNat) C dX10_lays_35 (ka_79 hS) (by omega) (by omega) ?_
  refine z_aload_n C dX10_lays_36 0 rfl ?_
  refine z_getR C dX10_lays_37 fX10_80 rfl (kd_57 hS) (r_57_42 hS) ?_
  refine z_iload C dX10_lays_40 5 rfl ?_
  refine z_iconst C dX10_lays_42 ?_
  refine z_iadd C dX10_lays_43 ?_
  refine z_iload C dX10_lays_44 4 rfl ?_
  refine z_iast (q := (b + 3).toNat) C dX10_lays_46 (ka_79 hS) (by omega) (by omega) ?_
  refine z_aload_n C dX10_lays_47 0 rfl ?_
  refine z_dup C dX10_lays_48 rfl ?_
  refine z_getI C dX10_lays_49 fX10_362 rfl (kd_57 hS) ?_
  refine z_eqi (gi I 57 43) (Eq.trans (gi_wi_na _ _ _ _ (by decide)) (Eq.trans (gi_wi_na _ _ _ _ (by decide)) (Eq.trans (gi_wi_na _ _ _ _ (by decide)) (gi_wi_na _ _ _ _ (by decide))))) ?_
  refine z_iconst C dX10_lays_52 ?_
  refine z_iadd C dX10_lays_53 ?_
  refine z_putI C dX10_lays_54 fX10_362 rfl rfl (kd_57 hS) rfl rfl ?_
  refine z_aload_n C dX10_lays_57 0 rfl ?_
  refine z_getI C dX10_lays_58 fX10_362 rfl (kd_57 hS) ?_
  refine z_eqi ((gi I 57 43) + 1) (gi_wi_eq (x := (gi I 57 43) + 1) _ _ _ (by have := gi_rng I 57 43; omega)) ?_
  refine z_iconst C dX10_lays_61 ?_
  refine z_isub C dX10_lays_62 ?_
  have hf1 : fX10_lays w1 w2 w3 w4 (I, J) = (((gi I 57 43) + 1) - 1, (wi (wi (wi (wi (wi I 79 ((b).toNat) w1) 79 ((b + 1).toNat) w2) 79 ((b + 2).toNat) w3) 79 ((b + 3).toNat) w4) 57 43 ((gi I 57 43) + 1)), J) := (by simp only [fX10_lays, ← hb])
  exact z_ireturnx C dX10_lays_63 (by rw [hf1]) (by rw [hf1])

noncomputable def fX10_draw (w : Int) (S : Mi × Mj) : Int × Mi × Mj :=
  match S with
  | (I, J) =>
    (((w32 (((gi I 57 41) * 1103515245) + 12345)) % 4294967296 / 256) % w, (wi I 57 41 (((gi I 57 41) * 1103515245) + 12345)), J)
theorem frX10_draw {w : Int} {S : Mi × Mj} {r0 : Int} {I0 : Mi} {J0 : Mj} (h : fX10_draw w S = (r0, I0, J0)) (aq kq : Nat) (haq : ¬ (aq = 57 ∧ kq = 41)) : I0 aq kq = S.1 aq kq := by
  obtain ⟨I, J⟩ := S
  unfold fX10_draw at h
  try simp only at h
  simp only [Prod.mk.injEq] at h
  obtain ⟨-, hI, hJ⟩ := h
  exact (congrFun (congrFun hI aq) kq).symm.trans (Eq.trans (wi_nc _ _ haq) rfl)
theorem fjX10_draw {w : Int} {S : Mi × Mj} {r0 : Int} {I0 : Mi} {J0 : Mj} (h : fX10_draw w S = (r0, I0, J0)) (aq kq : Nat) (haq : True) : J0 aq kq = S.2 aq kq := by
  obtain ⟨I, J⟩ := S
  unfold fX10_draw at h
  try simp only at h
  simp only [Prod.mk.injEq] at h
  obtain ⟨-, hI, hJ⟩ := h
  exact (congrFun (congrFun hJ aq) kq).symm.trans rfl
set_option maxHeartbeats 4000000 in
set_option maxRecDepth 100000 in
theorem qX10_draw {G : Gx} {σ : State} (hC : Cz G σ) {sh : Sh} {I : Mi} {J : Mj} (w : Int) (hS : St sh) (hw : 0 < w ∧ w ≤ 1000) : Ce G σ 1 yX10_draw cX10_draw 2 (some .int) [.ref (G.2.2 + 57), .int (iv (w))] (sh, I, J) 0 0 (some (.int (iv ((fX10_draw w (I, J)).1)))) (sh, (fX10_draw w (I, J)).2.1, (fX10_draw w (I, J)).2.2) := by
  refine Ct.of hC (by decide +kernel) (Nat.le_of_ble_eq_true rfl) ?_
  intro p l e R s m args below meth c C
  show Jz G σ p l e R s m args below meth c 2 0 0 (Qx (some (.int (iv ((fX10_draw w (I, J)).1)))) (sh, (fX10_draw w (I, J)).2.1, (fX10_draw w (I, J)).2.2)) (sh, I, J) 0 0 0 [(0, .ref (G.2.2 + 57)), (1, .int (iv (w)))] []
  refine z_aload_n C dX10_draw_0 0 rfl ?_
  refine z_aload_n C dX10_draw_1 0 rfl ?_
  refine z_getI C dX10_draw_2 fX10_355 rfl (kd_57 hS) ?_
  refine z_ldcw C dX10_draw_5 kX10_358 ?_
  refine z_imul C dX10_draw_8 ?_
  refine z_sipush C dX10_draw_9 (by decide) ?_
  refine z_iadd C dX10_draw_12 ?_
  refine z_putI C dX10_draw_13 fX10_355 rfl rfl (kd_57 hS) rfl rfl ?_
  refine z_aload_n C dX10_draw_16 0 rfl ?_
  refine z_getI C dX10_draw_17 fX10_355 rfl (kd_57 hS) ?_
  refine z_eqi (w32 (((gi I 57 41) * 1103515245) + 12345)) (gi_wi_w _ _ _ _) ?_
  refine z_bipush C dX10_draw_20 (by decide) ?_
  refine z_iushr ((w32 (((gi I 57 41) * 1103515245) + 12345)) % 4294967296 / 256) C dX10_draw_22 (iv_ushr _ (k := 8) (by decide)) ?_
  refine z_iload_n C dX10_draw_23 1 rfl ?_
  refine z_irem (((w32 (((gi I 57 41) * 1103515245) + 12345)) % 4294967296 / 256) % w) C dX10_draw_24 (iv_ne0 (by omega) (by omega)) (iv_rem (by omega) (by omega)) ?_
  have hf1 : fX10_draw w (I, J) = (((w32 (((gi I 57 41) * 1103515245) + 12345)) % 4294967296 / 256) % w, (wi I 57 41 (((gi I 57 41) * 1103515245) + 12345)), J) := (by simp only [fX10_draw])
  exact z_ireturnx C dX10_draw_25 (by rw [hf1]) (by rw [hf1])

