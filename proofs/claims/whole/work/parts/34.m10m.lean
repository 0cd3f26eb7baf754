theorem hun_bd {I : Mi} {w t lk : Int} (hn : NX (I 59)) (hy : NY (I 59)) (hw : 0 ≤ w ∧ w < 8) (ht : 0 ≤ t ∧ t < 8) (hk : 0 ≤ lk ∧ lk ≤ 100) : 0 ≤ gX10_hundredths w t lk (I 59) ∧ gX10_hundredths w t lk (I 59) ≤ 300 := by
  have h1 := (nx_st hn).1
  have h2 := ny_t (q := 44 + 8 * w + t) hy (by omega) (by omega)
  rw [gi_gn] at h1 h2
  unfold gX10_hundredths
  simp only
  repeat' split
  all_goals (try rw [w32_eq (by omega)]); omega
theorem luck_bd {I : Mi} (hn : NX (I 59)) : 0 ≤ gX10_luckOf (I 59) ∧ gX10_luckOf (I 59) ≤ 100 := by
  have hbd := su_bd (f := fun q => if gn (I 59) (8 + 3 * gn (I 59) (120 + 32 * q + 4).toNat + 0).toNat ≤ 0 then 0 else -1) (a := -1) (b := 0) (fun q => by split <;> decide) (gn (I 59) 108).toNat
  have h3 := nx_lk hn
  rw [gi_gn] at h3
  unfold gX10_luckOf
  simp only
  split
  · omega
  · rw [w32_eq (by omega)]; omega

set_option maxHeartbeats 4000000 in
set_option maxRecDepth 100000 in
theorem qX10_showsFalse {G : Gx} {σ : State} (hC : Cz G σ) {sh : Sh} {I : Mi} {J : Mj} (q : Int) (hS : St sh) (hn : NX (I 59)) (hy : NY (I 59)) (hq : 0 ≤ q ∧ q < gi I 59 108) : Ce G σ 3 yX10_showsFalse cX10_showsFalse 4 (some .int) [.ref (G.2.2 + 57), .int (iv (q))] (sh, I, J) 0 0 (some (.int (iv (gSF q (I 59))))) (sh, I, J) := by
  refine Ct.of hC (by decide +kernel) (Nat.le_of_ble_eq_true rfl) ?_
  intro p l e R s m args below meth c C
  show Jz G σ p l e R s m args below meth c 4 0 0 (Qx (some (.int (iv (gSF q (I 59))))) (sh, I, J)) (sh, I, J) 0 0 0 [(0, .ref (G.2.2 + 57)), (1, .int (iv (q)))] []
  have hn0 := nx_c hn
  have hn1 := nx_p hn
  have hn2 := nx_m hn
  have hn3 := nx_s hn
  have hn4 := nx_sl hn
  have hla := nx_la hn hq.1 hq.2
  refine z_iconst C dX10_showsFalse_0 ?_
  refine z_istore_n (lv' := [(0, .ref (G.2.2 + 57)), (1, .int (iv (q))), (2, .int (iv (0)))]) C dX10_showsFalse_1 rfl (by decide) [1, 2, 0] rfl ?_
  refine z_iconst C dX10_showsFalse_2 ?_
  refine z_istore_n (lv' := [(0, .ref (G.2.2 + 57)), (1, .int (iv (q))), (2, .int (iv (0))), (3, .int (iv (0)))]) C dX10_showsFalse_3 rfl (by decide) [1, 2, 3, 0] rfl ?_
  have hL2 : ∀ (N1 : Nat) (i : Int) (v : Int), (0 ≤ i ∧ i ≤ gi I 59 (120 + 32 * q + 3).toNat) → (0 ≤ v ∧ v ≤ 1) → (v = orf (fun i => gX10_faceFalse q i (I 59)) i.toNat) → (gi I 59 (120 + 32 * q + 3).toNat - i).toNat < N1 → Jz G σ p l e R s m args below meth c 4 0 0 (Qx (some (.int (iv (gSF q (I 59))))) (sh, I, J)) (sh, I, J) 0 0 4 [(0, .ref (G.2.2 + 57)), (1, .int (iv (q))), (2, .int (iv (v))), (3, .int (iv (i)))] [] := by
    intro N1
    induction N1 with
    | zero => intro i v hi hv hr hm; exact absurd hm (Nat.not_lt_zero _)
    | succ N1 ih3 =>
      intro i v hi hv hr hm
      refine z_iload_n C dX10_showsFalse_4 3 rfl ?_
      refine z_aload_n C dX10_showsFalse_5 0 rfl ?_
      refine z_iload_n C dX10_showsFalse_6 1 rfl ?_
      refine z_iconst C dX10_showsFalse_7 ?_
      refine z_cVi (st := [.int (iv (i))]) C dX10_showsFalse_8 mX10_256 (kd_57 hS) (qX10_ofCoin hC q 3 hS (by omega) (by omega)) rfl rfl (Nat.le_of_ble_eq_true rfl) (by decide) ?_
      refine z_icmp_ge 29 C dX10_showsFalse_11 (by decide) (by omega) (gi_rng _ _ _) (fun h4 => ?_) (fun h4 => ?_)
      ·
        refine z_iload_n C dX10_showsFalse_29 2 rfl ?_
        exact z_ireturnx C dX10_showsFalse_30 (by rw [hr, show i = gi I 59 (120 + 32 * q + 3).toNat by omega]; rfl) rfl
      ·
        have hff : 0 ≤ gX10_faceFalse q i (I 59) ∧ gX10_faceFalse q i (I 59) ≤ 1 := by
          have h1 := (nx_fa hn hq.1 hq.2 hi.1 (by omega)).2
          rw [show 120 + 32 * q + 4 + 3 * i + 2 = 120 + 32 * q + (4 + 3 * i + 2) by omega] at h1
          have h2 := ny_sf hy h1.1 h1.2
          unfold gX10_faceFalse; exact h2
        refine z_iload_n C dX10_showsFalse_14 2 rfl ?_
        refine z_aload_n C dX10_showsFalse_15 0 rfl ?_
        refine z_iload_n C dX10_showsFalse_16 1 rfl ?_
        refine z_iload_n C dX10_showsFalse_17 3 rfl ?_
        refine z_cVi (st := [.int (iv (v))]) C dX10_showsFalse_18 mX10_279 (kd_57 hS) (qX10_faceFalse hC q i hS hn hq (by have := gi_rng I 59 ((120 + 32 * q + 3).toNat); have := gi_rng I 59 (120 + 32 * q + 3).toNat; omega)) rfl rfl (Nat.le_of_ble_eq_true rfl) (by decide) ?_
        refine z_ior (orI v (gX10_faceFalse q i (I 59))) C dX10_showsFalse_21 (orI_eq (by omega) (by omega)) ?_
        refine z_nami (fun v2 hv2 => ?_)
        refine z_istore_n (lv' := [(0, .ref (G.2.2 + 57)), (1, .int (iv (q))), (2, .int (iv (v2))), (3, .int (iv (i)))]) C dX10_showsFalse_22 rfl (by decide) [1, 2, 0, 3] rfl ?_
        refine z_iinc (lv' := [(0, .ref (G.2.2 + 57)), (1, .int (iv (q))), (2, .int (iv (v2))), (3, .int (iv (i + 1)))]) C dX10_showsFalse_23 3 rfl (by decide) [1, 2, 3, 0] rfl ?_
        refine z_goto 4 C dX10_showsFalse_26 (by decide) ?_
        exact ih3 (i + 1) (v2) (by omega) (by rw [hv2]; exact orI_01 hv hff) (by rw [orf_s _ hi.1, ← hr, hv2]) (by omega)
  exact hL2 _ (0) (0) (by omega) (by decide) rfl (Nat.lt_succ_self _)

noncomputable def fX10_of (q : Int) (t : Int) (S : Mi × Mj) : Int × Mi × Mj :=
  match S with
  | (I, J) =>
    match fX10_lay (I, J) with
    | (r1, I2, J3) =>
      if 0 ≤ q ∧ q < gi I 59 108 then
        if 0 ≤ t ∧ t ≤ 4 then
          if t = 0 then
            (gi I2 59 ((120 + 32 * q + 0).toNat), (wi I2 57 0 0), J3)
          else
            if t = 1 then
              (gi I2 59 ((120 + 32 * q + 1).toNat), (wi I2 57 0 0), J3)
            else
              if t = 2 then
                (gi I2 59 ((120 + 32 * q + 3).toNat), (wi I2 57 0 0), J3)
              else
                if t = 3 then
                  (gi I2 59 ((120 + 32 * q + 2).toNat), (wi I2 57 0 0), J3)
                else
                  (gSF q (I2 59), (wi I2 57 0 0), J3)
        else
          (0, (wi I2 57 0 1), J3)
      else
        (0, (wi I2 57 0 1), J3)
theorem frX10_of {q : Int} {t : Int} {S : Mi × Mj} {r0 : Int} {I0 : Mi} {J0 : Mj} (h : fX10_of q t S = (r0, I0, J0)) (aq kq : Nat) (haq : ¬ (aq = 57 ∧ kq = 0) ∧ ¬ (aq = 57 ∧ kq = 22) ∧ ¬ (aq = 59 ∧ kq = 110) ∧ ¬ (aq = 59 ∧ kq = 111) ∧ ¬ (aq = 59 ∧ kq = 4) ∧ ¬ (aq = 59 ∧ kq = 5) ∧ ¬ (aq = 59 ∧ kq = 6)) : I0 aq kq = S.1 aq kq := by
  obtain ⟨I, J⟩ := S
  unfold fX10_of at h
  try simp only at h
  obtain ⟨⟨r1, I2, J3⟩, hq1⟩ : ∃ q, q = fX10_lay (I, J) := ⟨_, rfl⟩
  rw [← hq1] at h; try simp only at h
  by_cases hq2 : 0 ≤ q ∧ q < gi I 59 108
  · simp only [if_pos hq2] at h
    by_cases hq3 : 0 ≤ t ∧ t ≤ 4
    · simp only [if_pos hq3] at h
      by_cases hq4 : t = 0
      · simp only [if_pos hq4] at h
        simp only [Prod.mk.injEq] at h
        obtain ⟨-, hI, hJ⟩ := h
        exact (congrFun (congrFun hI aq) kq).symm.trans (Eq.trans (wi_nc _ _ haq.1) (Eq.trans (frX10_lay hq1.symm aq kq ⟨haq.2.1, haq.2.2.1, haq.2.2.2.1, haq.2.2.2.2.1, haq.2.2.2.2.2.1, haq.2.2.2.2.2.2⟩) rfl))
      · simp only [if_neg hq4] at h
        by_cases hq5 : t = 1
        · simp only [if_pos hq5] at h
          simp only [Prod.mk.injEq] at h
          obtain ⟨-, hI, hJ⟩ := h
          exact (congrFun (congrFun hI aq) kq).symm.trans (Eq.trans (wi_nc _ _ haq.1) (Eq.trans (frX10_lay hq1.symm aq kq ⟨haq.2.1, haq.2.2.1, haq.2.2.2.1, haq.2.2.2.2.1, haq.2.2.2.2.2.1, haq.2.2.2.2.2.2⟩) rfl))
        · simp only [if_neg hq5] at h
          by_cases hq6 : t = 2
          · simp only [if_pos hq6] at h
            simp only [Prod.mk.injEq] at h
            obtain ⟨-, hI, hJ⟩ := h
            exact (congrFun (congrFun hI aq) kq).symm.trans (Eq.trans (wi_nc _ _ haq.1) (Eq.trans (frX10_lay hq1.symm aq kq ⟨haq.2.1, haq.2.2.1, haq.2.2.2.1, haq.2.2.2.2.1, haq.2.2.2.2.2.1, haq.2.2.2.2.2.2⟩) rfl))
          · simp only [if_neg hq6] at h
            by_cases hq7 : t = 3
            · simp only [if_pos hq7] at h
              simp only [Prod.mk.injEq] at h
              obtain ⟨-, hI, hJ⟩ := h
              exact (congrFun (congrFun hI aq) kq).symm.trans (Eq.trans (wi_nc _ _ haq.1) (Eq.trans (frX10_lay hq1.symm aq kq ⟨haq.2.1, haq.2.2.1, haq.2.2.2.1, haq.2.2.2.2.1, haq.2.2.2.2.2.1, haq.2.2.2.2.2.2⟩) rfl))
            · simp only [if_neg hq7] at h
              simp only [Prod.mk.injEq] at h
              obtain ⟨-, hI, hJ⟩ := h
              exact (congrFun (congrFun hI aq) kq).symm.trans (Eq.trans (wi_nc _ _ haq.1) (Eq.trans (frX10_lay hq1.symm aq kq ⟨haq.2.1, haq.2.2.1, haq.2.2.2.1, haq.2.2.2.2.1, haq.2.2.2.2.2.1, haq.2.2.2.2.2.2⟩) rfl))
    · simp only [if_neg hq3] at h
      simp only [Prod.mk.injEq] at h
      obtain ⟨-, hI, hJ⟩ := h
      exact (congrFun (congrFun hI aq) kq).symm.trans (Eq.trans (wi_nc _ _ haq.1) (Eq.trans (frX10_lay hq1.symm aq kq ⟨haq.2.1, haq.2.2.1, haq.2.2.2.1, haq.2.2.2.2.1, haq.2.2.2.2.2.1, haq.2.2.2.2.2.2⟩) rfl))
  · simp only [if_neg hq2] at h
    simp only [Prod.mk.injEq] at h
    obtain ⟨-, hI, hJ⟩ := h
    exact (congrFun (congrFun hI aq) kq).symm.trans (Eq.trans (wi_nc _ _ haq.1) (Eq.trans (frX10_lay hq1.symm aq kq ⟨haq.2.1, haq.2.2.1, haq.2.2.2.1, haq.2.2.2.2.1, haq.2.2.2.2.2.1, haq.2.2.2.2.2.2⟩) rfl))
theorem fjX10_of {q : Int} {t : Int} {S : Mi × Mj} {r0 : Int} {I0 : Mi} {J0 : Mj} (h : fX10_of q t S = (r0, I0, J0)) (aq kq : Nat) (haq : True) : J0 aq kq = S.2 aq kq := by
  obtain ⟨I, J⟩ := S
  unfold fX10_of at h
  try simp only at h
  obtain ⟨⟨r1, I2, J3⟩, hq1⟩ : ∃ q, q = fX10_lay (I, J) := ⟨_, rfl⟩
  rw [← hq1] at h; try simp only at h
  by_cases hq2 : 0 ≤ q ∧ q < gi I 59 108
  · simp only [if_pos hq2] at h
    by_cases hq3 : 0 ≤ t ∧ t ≤ 4
    · simp only [if_pos hq3] at h
      by_cases hq4 : t = 0
      · simp only [if_pos hq4] at h
        simp only [Prod.mk.injEq] at h
        obtain ⟨-, hI, hJ⟩ := h
        exact (congrFun (congrFun hJ aq) kq).symm.trans (Eq.trans (fjX10_lay hq1.symm aq kq trivial) rfl)
      · simp only [if_neg hq4] at h
        by_cases hq5 : t = 1
        · simp only [if_pos hq5] at h
          simp only [Prod.mk.injEq] at h
          obtain ⟨-, hI, hJ⟩ := h
          exact (congrFun (congrFun hJ aq) kq).symm.trans (Eq.trans (fjX10_lay hq1.symm aq kq trivial) rfl)
        · simp only [if_neg hq5] at h
          by_cases hq6 : t = 2
          · simp only [if_pos hq6] at h
            simp only [Prod.mk.injEq] at h
            obtain ⟨-, hI, hJ⟩ := h
            exact (congrFun (congrFun hJ aq) kq).symm.trans (Eq.trans (fjX10_lay hq1.symm aq kq trivial) rfl)
          · simp only [if_neg hq6] at h
            by_cases hq7 : t = 3
            · simp only [if_pos hq7] at h
              simp only [Prod.mk.injEq] at h
              obtain ⟨-, hI, hJ⟩ := h
              exact (congrFun (congrFun hJ aq) kq).symm.trans (Eq.trans (fjX10_lay hq1.symm aq kq trivial) rfl)
            · simp only [if_neg hq7] at h
              simp only [Prod.mk.injEq] at h
              obtain ⟨-, hI, hJ⟩ := h
              exact (congrFun (congrFun hJ aq) kq).symm.trans (Eq.trans (fjX10_lay hq1.symm aq kq trivial) rfl)
    · simp only [if_neg hq3] at h
      simp only [Prod.mk.injEq] at h
      obtain ⟨-, hI, hJ⟩ := h
      exact (congrFun (congrFun hJ aq) kq).symm.trans (Eq.trans (fjX10_lay hq1.symm aq kq trivial) rfl)
  · simp only [if_neg hq2] at h
    simp only [Prod.mk.injEq] at h
    obtain ⟨-, hI, hJ⟩ := h
    exact (congrFun (congrFun hJ aq) kq).symm.trans (Eq.trans (fjX10_lay hq1.symm aq kq trivial) rfl)
set_option maxHeartbeats 4000000 in
set_option maxRecDepth 100000 in
theorem qX10_of {G : Gx} {σ : State} (hC : Cz G σ) {sh : Sh} {I : Mi} {J : Mj} (q t : Int) (hS : St sh) (hn : NX (I 59)) (hy : NY (I 59)) (rq : -2147483648 ≤ q ∧ q < 2147483648) (rt : -2147483648 ≤ t ∧ t < 2147483648) : Ce G σ 4 yX10_of cX10_of 3 (some .int) [.ref (G.2.2 + 57), .int (iv (q)), .int (iv (t))] (sh, I, J) 0 0 (some (.int (iv ((fX10_of q t (I, J)).1)))) (sh, (fX10_of q t (I, J)).2.1, (fX10_of q t (I, J)).2.2) := by
  refine Ct.of hC (by decide +kernel) (Nat.le_of_ble_eq_true rfl) ?_
  intro p l e R s m args below meth c C
  show Jz G σ p l e R s m args below meth c 3 0 0 (Qx (some (.int (iv ((fX10_of q t (I, J)).1)))) (sh, (fX10_of q t (I, J)).2.1, (fX10_of q t (I, J)).2.2)) (sh, I, J) 0 0 0 [(0, .ref (G.2.2 + 57)), (1, .int (iv (q))), (2, .int (iv (t)))] []
  refine z_aload_n C dX10_of_0 0 rfl ?_
  refine z_cVvF (st := []) (F := fX10_lay (I, J)) C dX10_of_1 mX10_167 (kd_57 hS) (qX10_lay hC  hS) rfl rfl (Nat.le_of_ble_eq_true rfl) (by decide) (fun r1 I2 J3 hT4 => ?_)
  have hn5 : NX (I2 59) := nxX10_lay hT4 hn
  have hy6 : NY (I2 59) := nyX10_lay hT4 hy
  have e108 := (show gi I2 59 108 = gi I 59 108 from (gi_fk (frX10_lay hT4 59 108 (by decide))))
  have e0 := (show gi I2 59 0 = gi I 59 0 from (gi_fk (frX10_lay hT4 59 0 (by decide))))
  have e1 := (show gi I2 59 1 = gi I 59 1 from (gi_fk (frX10_lay hT4 59 1 (by decide))))
  have e112 := (show gi I2 59 112 = gi I 59 112 from (gi_fk (frX10_lay hT4 59 112 (by decide))))
  have e113 := (show gi I2 59 113 = gi I 59 113 from (gi_fk (frX10_lay hT4 59 113 (by decide))))
  have b108 := nx_c hn5
  have b0 := nx_p hn5
  have b1 := nx_m hn5
  have b112 := nx_s hn5
  have b113 := nx_sl hn5
  have b6 := nx_st hn5
  refine z_aload_n C dX10_of_4 0 rfl ?_
  refine z_iload_n C dX10_of_5 1 rfl ?_
  refine z_cVi (st := []) C dX10_of_6 mX10_282 (kd_57 hS) (qX10_isCoin hC q hS rq) rfl rfl (Nat.le_of_ble_eq_true rfl) (by decide) ?_
  refine z_eqi (b2 (0 ≤ q ∧ q < gi I 59 108)) (b2_iff (by rw [show gi I2 59 108 = gi I 59 108 from (gi_fk (frX10_lay hT4 59 108 (by decide)))])) ?_
  refine z_if_eq_b 21 C dX10_of_9 (by decide) (fun h7 => ?_) (fun h7 => ?_)
  ·
    refine z_aload_n C dX10_of_21 0 rfl ?_
    refine z_cVi (st := []) C dX10_of_22 mX10_246 (kd_57 hS) (qX10_refuse hC  hS) rfl rfl (Nat.le_of_ble_eq_true rfl) (by decide) ?_
    have hf8 : fX10_of q t (I, J) = (0, (wi I2 57 0 1), J3) := (by simp only [fX10_of, hT4, if_neg h7])
    exact z_ireturnx C dX10_of_25 (by rw [hf8]) (by rw [hf8])
  ·
    refine z_iload_n C dX10_of_12 2 rfl ?_
    refine z_iconst C dX10_of_13 ?_
    refine z_iconst C dX10_of_14 ?_
    refine z_cSi (st := []) C dX10_of_15 mX10_154 (qX10_isIn hC t 0 4 rt (by omega) (by omega)) rfl rfl (Nat.le_of_ble_eq_true rfl) (by decide) ?_
    refine z_if_ne_b 26 C dX10_of_18 (by decide) (fun h9 => ?_) (fun h9 => ?_)
    ·
      refine z_aload_n C dX10_of_26 0 rfl ?_
      refine z_iconst C dX10_of_27 ?_
      refine z_putI C dX10_of_28 fX10_83 rfl rfl (kd_57 hS) rfl rfl ?_
      refine z_iload_n C dX10_of_31 2 rfl ?_
      refine z_if_ne 44 C dX10_of_32 (by decide) (by omega) (fun h10 => ?_) (fun h10 => ?_)
      ·
        refine z_iload_n C dX10_of_44 2 rfl ?_
        refine z_iconst C dX10_of_45 ?_
        refine z_icmp_ne 58 C dX10_of_46 (by decide) (by omega) (by decide) (fun h11 => ?_) (fun h11 => ?_)
        ·
          refine z_iload_n C dX10_of_58 2 rfl ?_
          refine z_iconst C dX10_of_59 ?_
          refine z_icmp_ne 72 C dX10_of_60 (by decide) (by omega) (by decide) (fun h12 => ?_) (fun h12 => ?_)
          ·
            refine z_iload_n C dX10_of_72 2 rfl ?_
            refine z_iconst C dX10_of_73 ?_
            refine z_icmp_ne 86 C dX10_of_74 (by decide) (by omega) (by decide) (fun h13 => ?_) (fun h13 => ?_)
            ·
              refine z_aload_n C dX10_of_86 0 rfl ?_
              refine z_iload_n C dX10_of_87 1 rfl ?_
              refine z_cVi (st := []) C dX10_of_88 mX10_285 (kd_57 hS) (qX10_showsFalse hC q hS (h59 (P := NX) (wi_ne _ _ _ (by decide)) hn5) (h59 (P := NY) (wi_ne _ _ _ (by decide)) hy6) (by have : gi (wi I2 57 0 0) 59 108 = gi I 59 108 := (Eq.trans (gi_wi_na _ _ _ _ (by decide)) (gi_fk (frX10_lay hT4 59 108 (by decide)))); have := gi_rng I 59 108; have := gi_rng (wi I2 57 0 0) 59 108; omega)) rfl rfl (Nat.le_of_ble_eq_true rfl) (by decide) ?_
              refine z_eqi (gSF q (I2 59)) (by rw [show ((wi I2 57 0 0) 59) = (I2 59) from (wi_ne _ _ _ (by decide))]) ?_
              have hf14 : fX10_of q t (I, J) = (gSF q (I2 59), (wi I2 57 0 0), J3) := (by simp only [fX10_of, hT4, if_pos h7, if_pos h9, if_neg h10, if_neg h11, if_neg h12, if_neg h13])
              exact z_ireturnx C dX10_of_91 (by rw [hf14]) (by rw [hf14])
            ·
              refine z_aload_n C dX10_of_77 0 rfl ?_
              refine z_iload_n C dX10_of_78 1 rfl ?_
              refine z_iconst C dX10_of_79 ?_
              refine z_cVi (st := []) C dX10_of_80 mX10_256 (kd_57 hS) (qX10_ofCoin hC q 2 hS (by omega) (by omega)) rfl rfl (Nat.le_of_ble_eq_true rfl) (by decide) ?_
              refine z_eqi (gi I2 59 ((120 + 32 * q + 2).toNat)) (by rw [show gi (wi I2 57 0 0) 59 (120 + 32 * q + 2).toNat = gi I2 59 ((120 + 32 * q + 2).toNat) from (gi_wi_na _ _ _ _ (by decide))]) ?_
              refine z_goto 91 C dX10_of_83 (by decide) ?_
              have hf15 : fX10_of q t (I, J) = (gi I2 59 ((120 + 32 * q + 2).toNat), (wi I2 57 0 0), J3) := (by simp only [fX10_of, hT4, if_pos h7, if_pos h9, if_neg h10, if_neg h11, if_neg h12, if_pos h13])
              exact z_ireturnx C dX10_of_91 (by rw [hf15]) (by rw [hf15])
          ·
            refine z_aload_n C dX10_of_63 0 rfl ?_
            refine z_iload_n C dX10_of_64 1 rfl ?_
            refine z_iconst C dX10_of_65 ?_
            refine z_cVi (st := []) C dX10_of_66 mX10_256 (kd_57 hS) (qX10_ofCoin hC q 3 hS (by omega) (by omega)) rfl rfl (Nat.le_of_ble_eq_true rfl) (by decide) ?_
            refine z_eqi (gi I2 59 ((120 + 32 * q + 3).toNat)) (by rw [show gi (wi I2 57 0 0) 59 (120 + 32 * q + 3).toNat = gi I2 59 ((120 + 32 * q + 3).toNat) from (gi_wi_na _ _ _ _ (by decide))]) ?_
            refine z_goto 91 C dX10_of_69 (by decide) ?_
            have hf16 : fX10_of q t (I, J) = (gi I2 59 ((120 + 32 * q + 3).toNat), (wi I2 57 0 0), J3) := (by simp only [fX10_of, hT4, if_pos h7, if_pos h9, if_neg h10, if_neg h11, if_pos h12])
            exact z_ireturnx C dX10_of_91 (by rw [hf16]) (by rw [hf16])
        ·
          refine z_aload_n C dX10_of_49 0 rfl ?_
          refine z_iload_n C dX10_of_50 1 rfl ?_
          refine z_iconst C dX10_of_51 ?_
          refine z_cVi (st := []) C dX10_of_52 mX10_256 (kd_57 hS) (qX10_ofCoin hC q 1 hS (by omega) (by omega)) rfl rfl (Nat.le_of_ble_eq_true rfl) (by decide) ?_
          refine z_eqi (gi I2 59 ((120 + 32 * q + 1).toNat)) (by rw [show gi (wi I2 57 0 0) 59 (120 + 32 * q + 1).toNat = gi I2 59 ((120 + 32 * q + 1).toNat) from (gi_wi_na _ _ _ _ (by decide))]) ?_
          refine z_goto 91 C dX10_of_55 (by decide) ?_
          have hf17 : fX10_of q t (I, J) = (gi I2 59 ((120 + 32 * q + 1).toNat), (wi I2 57 0 0), J3) := (by simp only [fX10_of, hT4, if_pos h7, if_pos h9, if_neg h10, if_pos h11])
          exact z_ireturnx C dX10_of_91 (by rw [hf17]) (by rw [hf17])
      ·
        refine z_aload_n C dX10_of_35 0 rfl ?_
        refine z_iload_n C dX10_of_36 1 rfl ?_
        refine z_iconst C dX10_of_37 ?_
        refine z_cVi (st := []) C dX10_of_38 mX10_256 (kd_57 hS) (qX10_ofCoin hC q 0 hS (by omega) (by omega)) rfl rfl (Nat.le_of_ble_eq_true rfl) (by decide) ?_
        refine z_eqi (gi I2 59 ((120 + 32 * q + 0).toNat)) (by rw [show gi (wi I2 57 0 0) 59 (120 + 32 * q + 0).toNat = gi I2 59 ((120 + 32 * q + 0).toNat) from (gi_wi_na _ _ _ _ (by decide))]) ?_
        refine z_goto 91 C dX10_of_41 (by decide) ?_
        have hf18 : fX10_of q t (I, J) = (gi I2 59 ((120 + 32 * q + 0).toNat), (wi I2 57 0 0), J3) := (by simp only [fX10_of, hT4, if_pos h7, if_pos h9, if_pos h10])
        exact z_ireturnx C dX10_of_91 (by rw [hf18]) (by rw [hf18])
    ·
      refine z_aload_n C dX10_of_21 0 rfl ?_
      refine z_cVi (st := []) C dX10_of_22 mX10_246 (kd_57 hS) (qX10_refuse hC  hS) rfl rfl (Nat.le_of_ble_eq_true rfl) (by decide) ?_
      have hf19 : fX10_of q t (I, J) = (0, (wi I2 57 0 1), J3) := (by simp only [fX10_of, hT4, if_pos h7, if_neg h9])
      exact z_ireturnx C dX10_of_25 (by rw [hf19]) (by rw [hf19])

noncomputable def fX10_value (w : Int) (q : Int) (t : Int) (S : Mi × Mj) : Int × Mi × Mj :=
  match S with
  | (I, J) =>
    match fX10_lay ((wi I 57 0 0), J) with
    | (r1, I2, J3) =>
      if 0 ≤ w ∧ w < gi I 59 0 then
        if 0 ≤ q ∧ q < gi I 59 108 then
          if 0 ≤ t ∧ t ≤ 1 then
            if t = 0 then
              (gX10_hundredths w (gi I2 59 (120 + 32 * q + 4).toNat) (gX10_luckOf (I2 59)) (I2 59), I2, J3)
            else
              (gX10_valueOf w q (I2 59), I2, J3)
          else
            (-1, I2, J3)
        else
          (-1, I2, J3)
      else
        (-1, I2, J3)
theorem frX10_value {w : Int} {q : Int} {t : Int} {S : Mi × Mj} {r0 : Int} {I0 : Mi} {J0 : Mj} (h : fX10_value w q t S = (r0, I0, J0)) (aq kq : Nat) (haq : ¬ (aq = 57 ∧ kq = 0) ∧ ¬ (aq = 57 ∧ kq = 22) ∧ ¬ (aq = 59 ∧ kq = 110) ∧ ¬ (aq = 59 ∧ kq = 111) ∧ ¬ (aq = 59 ∧ kq = 4) ∧ ¬ (aq = 59 ∧ kq = 5) ∧ ¬ (aq = 59 ∧ kq = 6)) : I0 aq kq = S.1 aq kq := by
  obtain ⟨I, J⟩ := S
  unfold fX10_value at h
  try simp only at h
  obtain ⟨⟨r1, I2, J3⟩, hq1⟩ : ∃ q, q = fX10_lay ((wi I 57 0 0), J) := ⟨_, rfl⟩
  rw [← hq1] at h; try simp only at h
  by_cases hq2 : 0 ≤ w ∧ w < gi I 59 0
  · simp only [if_pos hq2] at h
    by_cases hq3 : 0 ≤ q ∧ q < gi I 59 108
    · simp only [if_pos hq3] at h
      by_cases hq4 : 0 ≤ t ∧ t ≤ 1
      · simp only [if_pos hq4] at h
        by_cases hq5 : t = 0
        · simp only [if_pos hq5] at h
          simp only [Prod.mk.injEq] at h
          obtain ⟨-, hI, hJ⟩ := h
          exact (congrFun (congrFun hI aq) kq).symm.trans (Eq.trans (frX10_lay hq1.symm aq kq ⟨haq.2.1, haq.2.2.1, haq.2.2.2.1, haq.2.2.2.2.1, haq.2.2.2.2.2.1, haq.2.2.2.2.2.2⟩) (Eq.trans (wi_nc _ _ haq.1) rfl))
        · simp only [if_neg hq5] at h
          simp only [Prod.mk.injEq] at h
          obtain ⟨-, hI, hJ⟩ := h
          exact (congrFun (congrFun hI aq) kq).symm.trans (Eq.trans (frX10_lay hq1.symm aq kq ⟨haq.2.1, haq.2.2.1, haq.2.2.2.1, haq.2.2.2.2.1, haq.2.2.2.2.2.1, haq.2.2.2.2.2.2⟩) (Eq.trans (wi_nc _ _ haq.1) rfl))
      · simp only [if_neg hq4] at h
        simp only [Prod.mk.injEq] at h
        obtain ⟨-, hI, hJ⟩ := h
        exact (congrFun (congrFun hI aq) kq).symm.trans (Eq.trans (frX10_lay hq1.symm aq kq ⟨haq.2.1, haq.2.2.1, haq.2.2.2.1, haq.2.2.2.2.1, haq.2.2.2.2.2.1, haq.2.2.2.2.2.2⟩) (Eq.trans (wi_nc _ _ haq.1) rfl))
    · simp only [if_neg hq3] at h
      simp only [Prod.mk.injEq] at h
      obtain ⟨-, hI, hJ⟩ := h
      exact (congrFun (congrFun hI aq) kq).symm.trans (Eq.trans (frX10_lay hq1.symm aq kq ⟨haq.2.1, haq.2.2.1, haq.2.2.2.1, haq.2.2.2.2.1, haq.2.2.2.2.2.1, haq.2.2.2.2.2.2⟩) (Eq.trans (wi_nc _ _ haq.1) rfl))
  · simp only [if_neg hq2] at h
    simp only [Prod.mk.injEq] at h
    obtain ⟨-, hI, hJ⟩ := h
    exact (congrFun (congrFun hI aq) kq).symm.trans (Eq.trans (frX10_lay hq1.symm aq kq ⟨haq.2.1, haq.2.2.1, haq.2.2.2.1, haq.2.2.2.2.1, haq.2.2.2.2.2.1, haq.2.2.2.2.2.2⟩) (Eq.trans (wi_nc _ _ haq.1) rfl))
theorem fjX10_value {w : Int} {q : Int} {t : Int} {S : Mi × Mj} {r0 : Int} {I0 : Mi} {J0 : Mj} (h : fX10_value w q t S = (r0, I0, J0)) (aq kq : Nat) (haq : True) : J0 aq kq = S.2 aq kq := by
  obtain ⟨I, J⟩ := S
  unfold fX10_value at h
  try simp only at h
  obtain ⟨⟨r1, I2, J3⟩, hq1⟩ : ∃ q, q = fX10_lay ((wi I 57 0 0), J) := ⟨_, rfl⟩
  rw [← hq1] at h; try simp only at h
  by_cases hq2 : 0 ≤ w ∧ w < gi I 59 0
  · simp only [if_pos hq2] at h
    by_cases hq3 : 0 ≤ q ∧ q < gi I 59 108
    · simp only [if_pos hq3] at h
      by_cases hq4 : 0 ≤ t ∧ t ≤ 1
      · simp only [if_pos hq4] at h
        by_cases hq5 : t = 0
        · simp only [if_pos hq5] at h
          simp only [Prod.mk.injEq] at h
          obtain ⟨-, hI, hJ⟩ := h
          exact (congrFun (congrFun hJ aq) kq).symm.trans (Eq.trans (fjX10_lay hq1.symm aq kq trivial) rfl)
        · simp only [if_neg hq5] at h
          simp only [Prod.mk.injEq] at h
          obtain ⟨-, hI, hJ⟩ := h
          exact (congrFun (congrFun hJ aq) kq).symm.trans (Eq.trans (fjX10_lay hq1.symm aq kq trivial) rfl)
      · simp only [if_neg hq4] at h
        simp only [Prod.mk.injEq] at h
        obtain ⟨-, hI, hJ⟩ := h
        exact (congrFun (congrFun hJ aq) kq).symm.trans (Eq.trans (fjX10_lay hq1.symm aq kq trivial) rfl)
    · simp only [if_neg hq3] at h
      simp only [Prod.mk.injEq] at h
      obtain ⟨-, hI, hJ⟩ := h
      exact (congrFun (congrFun hJ aq) kq).symm.trans (Eq.trans (fjX10_lay hq1.symm aq kq trivial) rfl)
  · simp only [if_neg hq2] at h
    simp only [Prod.mk.injEq] at h
    obtain ⟨-, hI, hJ⟩ := h
    exact (congrFun (congrFun hJ aq) kq).symm.trans (Eq.trans (fjX10_lay hq1.symm aq kq trivial) rfl)
set_option maxHeartbeats 4000000 in
set_option maxRecDepth 100000 in
theorem qX10_value {G : Gx} {σ : State} (hC : Cz G σ) {sh : Sh} {I : Mi} {J : Mj} (w q t : Int) (hS : St sh) (hn : NX (I 59)) (hy : NY (I 59)) (rw : -2147483648 ≤ w ∧ w < 2147483648) (rq : -2147483648 ≤ q ∧ q < 2147483648) (rt : -2147483648 ≤ t ∧ t < 2147483648) : Ce G σ 5 yX10_value cX10_value 4 (some .int) [.ref (G.2.2 + 57), .int (iv (w)), .int (iv (q)), .int (iv (t))] (sh, I, J) 0 0 (some (.int (iv ((fX10_value w q t (I, J)).1)))) (sh, (fX10_value w q t (I, J)).2.1, (fX10_value w q t (I, J)).2.2) := by
  refine Ct.of hC (by decide +kernel) (Nat.le_of_ble_eq_true rfl) ?_
  intro p l e R s m args below meth c C
  show Jz G σ p l e R s m args below meth c 4 0 0 (Qx (some (.int (iv ((fX10_value w q t (I, J)).1)))) (sh, (fX10_value w q t (I, J)).2.1, (fX10_value w q t (I, J)).2.2)) (sh, I, J) 0 0 0 [(0, .ref (G.2.2 + 57)), (1, .int (iv (w))), (2, .int (iv (q))), (3, .int (iv (t)))] []
  refine z_aload_n C dX10_value_0 0 rfl ?_
  refine z_iconst C dX10_value_1 ?_
  refine z_putI C dX10_value_2 fX10_83 rfl rfl (kd_57 hS) rfl rfl ?_
  refine z_aload_n C dX10_value_5 0 rfl ?_
  refine z_cVvF (st := []) (F := fX10_lay ((wi I 57 0 0), J)) C dX10_value_6 mX10_167 (kd_57 hS) (qX10_lay hC  hS) rfl rfl (Nat.le_of_ble_eq_true rfl) (by decide) (fun r1 I2 J3 hT4 => ?_)
  have hn5 : NX (I2 59) := nxX10_lay hT4 hn
  have hy6 : NY (I2 59) := nyX10_lay hT4 hy
  have e108 := (show gi I2 59 108 = gi I 59 108 from (Eq.trans (gi_fk (frX10_lay hT4 59 108 (by decide))) (gi_wi_na _ _ _ _ (by decide))))
  have e0 := (show gi I2 59 0 = gi I 59 0 from (Eq.trans (gi_fk (frX10_lay hT4 59 0 (by decide))) (gi_wi_na _ _ _ _ (by decide))))
  have e1 := (show gi I2 59 1 = gi I 59 1 from (Eq.trans (gi_fk (frX10_lay hT4 59 1 (by decide))) (gi_wi_na _ _ _ _ (by decide))))
  have e112 := (show gi I2 59 112 = gi I 59 112 from (Eq.trans (gi_fk (frX10_lay hT4 59 112 (by decide))) (gi_wi_na _ _ _ _ (by decide))))
  have e113 := (show gi I2 59 113 = gi I 59 113 from (Eq.trans (gi_fk (frX10_lay hT4 59 113 (by decide))) (gi_wi_na _ _ _ _ (by decide))))
  have b108 := nx_c hn5
  have b0 := nx_p hn5
  have b1 := nx_m hn5
  have b112 := nx_s hn5
  have b113 := nx_sl hn5
  have b6 := nx_st hn5
  refine z_aload_n C dX10_value_9 0 rfl ?_
  refine z_iload_n C dX10_value_10 1 rfl ?_
  refine z_cVi (st := []) C dX10_value_11 mX10_243 (kd_57 hS) (qX10_isWho hC w hS rw) rfl rfl (Nat.le_of_ble_eq_true rfl) (by decide) ?_
  refine z_eqi (b2 (0 ≤ w ∧ w < gi I 59 0)) (b2_iff (by rw [show gi I2 59 0 = gi I 59 0 from (Eq.trans (gi_fk (frX10_lay hT4 59 0 (by decide))) (gi_wi_na _ _ _ _ (by decide)))])) ?_
  refine z_if_eq_b 34 C dX10_value_14 (by decide) (fun h7 => ?_) (fun h7 => ?_)
  ·
    refine z_iconst C dX10_value_34 ?_
    have hf8 : fX10_value w q t (I, J) = (-1, I2, J3) := (by simp only [fX10_value, hT4, if_neg h7])
    exact z_ireturnx C dX10_value_35 (by rw [hf8]) (by rw [hf8])
  ·
    refine z_aload_n C dX10_value_17 0 rfl ?_
    refine z_iload_n C dX10_value_18 2 rfl ?_
    refine z_cVi (st := []) C dX10_value_19 mX10_282 (kd_57 hS) (qX10_isCoin hC q hS rq) rfl rfl (Nat.le_of_ble_eq_true rfl) (by decide) ?_
    refine z_eqi (b2 (0 ≤ q ∧ q < gi I 59 108)) (b2_iff (by rw [show gi I2 59 108 = gi I 59 108 from (Eq.trans (gi_fk (frX10_lay hT4 59 108 (by decide))) (gi_wi_na _ _ _ _ (by decide)))])) ?_
    refine z_if_eq_b 34 C dX10_value_22 (by decide) (fun h9 => ?_) (fun h9 => ?_)
    ·
      refine z_iconst C dX10_value_34 ?_
      have hf10 : fX10_value w q t (I, J) = (-1, I2, J3) := (by simp only [fX10_value, hT4, if_pos h7, if_neg h9])
      exact z_ireturnx C dX10_value_35 (by rw [hf10]) (by rw [hf10])
    ·
      refine z_iload_n C dX10_value_25 3 rfl ?_
      refine z_iconst C dX10_value_26 ?_
      refine z_iconst C dX10_value_27 ?_
      refine z_cSi (st := []) C dX10_value_28 mX10_154 (qX10_isIn hC t 0 1 rt (by omega) (by omega)) rfl rfl (Nat.le_of_ble_eq_true rfl) (by decide) ?_
      refine z_if_ne_b 36 C dX10_value_31 (by decide) (fun h11 => ?_) (fun h11 => ?_)
      ·
        have hto := nx_to hn5 (q := q) (by omega) (by omega)
        have hlk := luck_bd hn5
        have hgg := ny_g hy6 (q := q) (by omega) (by omega)
        have hhu := hun_bd (lk := gX10_luckOf (I2 59)) (w := w) hn5 hy6 (by omega) ⟨hto.1, by omega⟩ hlk
        refine z_iload_n C dX10_value_36 3 rfl ?_
        refine z_if_ne 57 C dX10_value_37 (by decide) (by omega) (fun h12 => ?_) (fun h12 => ?_)
        ·
          refine z_aload_n C dX10_value_57 0 rfl ?_
          refine z_iload_n C dX10_value_58 1 rfl ?_
          refine z_iload_n C dX10_value_59 2 rfl ?_
          refine z_cVi (st := []) C dX10_value_60 mX10_294 (kd_57 hS) (qX10_valueOf hC w q hS hn5 (by omega) (by have : gi I2 59 108 = gi I 59 108 := (Eq.trans (gi_fk (frX10_lay hT4 59 108 (by decide))) (gi_wi_na _ _ _ _ (by decide))); have := gi_rng I 59 108; have := gi_rng I2 59 108; omega) (by have := gi_rng I2 59 ((120 + 32 * q + 0).toNat); have := gi_rng I2 59 (120 + 32 * q + 0).toNat; omega) (by have := gi_rng I2 59 ((120 + 32 * q + 4).toNat); have := gX10_hundredths_rng w (gi I2 59 (120 + 32 * q + 4).toNat) (gX10_luckOf (I2 59)) (I2 59); have := gi_rng I2 59 (120 + 32 * q + 4).toNat; have := gX10_luckOf_rng (I2 59); omega)) rfl rfl (Nat.le_of_ble_eq_true rfl) (by decide) ?_
          have hf13 : fX10_value w q t (I, J) = (gX10_valueOf w q (I2 59), I2, J3) := (by simp only [fX10_value, hT4, if_pos h7, if_pos h9, if_pos h11, if_neg h12])
          exact z_ireturnx C dX10_value_63 (by rw [hf13]) (by rw [hf13])
        ·
          refine z_aload_n C dX10_value_40 0 rfl ?_
          refine z_iload_n C dX10_value_41 1 rfl ?_
          refine z_aload_n C dX10_value_42 0 rfl ?_
          refine z_iload_n C dX10_value_43 2 rfl ?_
          refine z_cVi (st := [.int (iv (w)), .ref (G.2.2 + 57)]) C dX10_value_44 mX10_253 (kd_57 hS) (qX10_topOf hC q hS (by omega)) rfl rfl (Nat.le_of_ble_eq_true rfl) (by decide) ?_
          refine z_aload_n C dX10_value_47 0 rfl ?_
          refine z_cVi (st := [.int (iv (gi I2 59 (120 + 32 * q + 4).toNat)), .int (iv (w)), .ref (G.2.2 + 57)]) C dX10_value_48 mX10_288 (kd_57 hS) (qX10_luckOf hC  hS hn5) rfl rfl (Nat.le_of_ble_eq_true rfl) (by decide) ?_
          refine z_cVi (st := []) C dX10_value_51 mX10_291 (kd_57 hS) (qX10_hundredths hC w (gi I2 59 (120 + 32 * q + 4).toNat) (gX10_luckOf (I2 59)) hS (by omega) (by have := gi_rng I2 59 ((120 + 32 * q + 4).toNat); have := gi_rng I2 59 (120 + 32 * q + 4).toNat; omega) (by have := gX10_luckOf_rng (I2 59); omega)) rfl rfl (Nat.le_of_ble_eq_true rfl) (by decide) ?_
          refine z_goto 63 C dX10_value_54 (by decide) ?_
          have hf14 : fX10_value w q t (I, J) = (gX10_hundredths w (gi I2 59 (120 + 32 * q + 4).toNat) (gX10_luckOf (I2 59)) (I2 59), I2, J3) := (by simp only [fX10_value, hT4, if_pos h7, if_pos h9, if_pos h11, if_pos h12])
          exact z_ireturnx C dX10_value_63 (by rw [hf14]) (by rw [hf14])
      ·
        refine z_iconst C dX10_value_34 ?_
        have hf15 : fX10_value w q t (I, J) = (-1, I2, J3) := (by simp only [fX10_value, hT4, if_pos h7, if_pos h9, if_neg h11])
        exact z_ireturnx C dX10_value_35 (by rw [hf15]) (by rw [hf15])

noncomputable def beC (N : Nat → Int32) (q t : Int) (n : Int) : Bool := decide (gX10_wrongStroke (gn N (120 + 32 * q + 0).toNat - n * gn N (32 + 3 * t + 0).toNat) (gn N (120 + 32 * q + 2).toNat + n) t N = 0)
theorem wrong0 {g s t : Int} {N : Nat → Int32} (h : gX10_wrongStroke g s t N = 0) : s < gn N 6 := by
  unfold gX10_wrongStroke at h
  repeat' split at h
  all_goals first | (exact absurd h (by decide)) | omega
