theorem mulb2 {a b : Int} (ha : 0 ≤ a ∧ a ≤ 9) (hb : 0 ≤ b ∧ b ≤ 50) : 0 ≤ a * b ∧ a * b ≤ 450 := by
  have h1 := Int.mul_nonneg ha.1 hb.1
  have h2 : a * b ≤ 9 * 50 := Int.mul_le_mul ha.2 hb.2 hb.1 (by decide)
  omega
theorem gi_wi_w (I : Mi) (a k : Nat) (x : Int) : gi (wi I a k x) a k = w32 x := by unfold gi wi w32; rw [up2_ap, if_pos ⟨rfl, rfl⟩]

noncomputable def fX10_bears (q : Int) (t : Int) (S : Mi × Mj) : Int × Mi × Mj :=
  match S with
  | (I, J) =>
    match fX10_lay ((wi I 57 0 0), J) with
    | (r1, I2, J3) =>
      if 0 ≤ q ∧ q < gi I 59 108 then
        if 0 ≤ t ∧ t < gi I 59 1 then
          match wh (beC (I2 59) q t) inc1 ((9 - 0 : Int).toNat + 1) 0 with
          | n =>
            (n, I2, J3)
        else
          (-1, I2, J3)
      else
        (-1, I2, J3)
theorem frX10_bears {q : Int} {t : Int} {S : Mi × Mj} {r0 : Int} {I0 : Mi} {J0 : Mj} (h : fX10_bears q t S = (r0, I0, J0)) (aq kq : Nat) (haq : ¬ (aq = 57 ∧ kq = 0) ∧ ¬ (aq = 57 ∧ kq = 22) ∧ ¬ (aq = 59 ∧ kq = 110) ∧ ¬ (aq = 59 ∧ kq = 111) ∧ ¬ (aq = 59 ∧ kq = 4) ∧ ¬ (aq = 59 ∧ kq = 5) ∧ ¬ (aq = 59 ∧ kq = 6)) : I0 aq kq = S.1 aq kq := by
  obtain ⟨I, J⟩ := S
  unfold fX10_bears at h
  try simp only at h
  obtain ⟨⟨r1, I2, J3⟩, hq1⟩ : ∃ q, q = fX10_lay ((wi I 57 0 0), J) := ⟨_, rfl⟩
  rw [← hq1] at h; try simp only at h
  by_cases hq2 : 0 ≤ q ∧ q < gi I 59 108
  · simp only [if_pos hq2] at h
    by_cases hq3 : 0 ≤ t ∧ t < gi I 59 1
    · simp only [if_pos hq3] at h
      obtain ⟨n, hq4⟩ : ∃ zz, zz = wh (beC (I2 59) q t) inc1 ((9 - 0 : Int).toNat + 1) 0 := ⟨_, rfl⟩
      rw [← hq4] at h; try simp only at h
      simp only [Prod.mk.injEq] at h
      obtain ⟨-, hI, hJ⟩ := h
      exact (congrFun (congrFun hI aq) kq).symm.trans (Eq.trans (frX10_lay hq1.symm aq kq ⟨haq.2.1, haq.2.2.1, haq.2.2.2.1, haq.2.2.2.2.1, haq.2.2.2.2.2.1, haq.2.2.2.2.2.2⟩) (Eq.trans (wi_nc _ _ haq.1) rfl))
    · simp only [if_neg hq3] at h
      simp only [Prod.mk.injEq] at h
      obtain ⟨-, hI, hJ⟩ := h
      exact (congrFun (congrFun hI aq) kq).symm.trans (Eq.trans (frX10_lay hq1.symm aq kq ⟨haq.2.1, haq.2.2.1, haq.2.2.2.1, haq.2.2.2.2.1, haq.2.2.2.2.2.1, haq.2.2.2.2.2.2⟩) (Eq.trans (wi_nc _ _ haq.1) rfl))
  · simp only [if_neg hq2] at h
    simp only [Prod.mk.injEq] at h
    obtain ⟨-, hI, hJ⟩ := h
    exact (congrFun (congrFun hI aq) kq).symm.trans (Eq.trans (frX10_lay hq1.symm aq kq ⟨haq.2.1, haq.2.2.1, haq.2.2.2.1, haq.2.2.2.2.1, haq.2.2.2.2.2.1, haq.2.2.2.2.2.2⟩) (Eq.trans (wi_nc _ _ haq.1) rfl))
theorem fjX10_bears {q : Int} {t : Int} {S : Mi × Mj} {r0 : Int} {I0 : Mi} {J0 : Mj} (h : fX10_bears q t S = (r0, I0, J0)) (aq kq : Nat) (haq : True) : J0 aq kq = S.2 aq kq := by
  obtain ⟨I, J⟩ := S
  unfold fX10_bears at h
  try simp only at h
  obtain ⟨⟨r1, I2, J3⟩, hq1⟩ : ∃ q, q = fX10_lay ((wi I 57 0 0), J) := ⟨_, rfl⟩
  rw [← hq1] at h; try simp only at h
  by_cases hq2 : 0 ≤ q ∧ q < gi I 59 108
  · simp only [if_pos hq2] at h
    by_cases hq3 : 0 ≤ t ∧ t < gi I 59 1
    · simp only [if_pos hq3] at h
      obtain ⟨n, hq4⟩ : ∃ zz, zz = wh (beC (I2 59) q t) inc1 ((9 - 0 : Int).toNat + 1) 0 := ⟨_, rfl⟩
      rw [← hq4] at h; try simp only at h
      simp only [Prod.mk.injEq] at h
      obtain ⟨-, hI, hJ⟩ := h
      exact (congrFun (congrFun hJ aq) kq).symm.trans (Eq.trans (fjX10_lay hq1.symm aq kq trivial) rfl)
    · simp only [if_neg hq3] at h
      simp only [Prod.mk.injEq] at h
      obtain ⟨-, hI, hJ⟩ := h
      exact (congrFun (congrFun hJ aq) kq).symm.trans (Eq.trans (fjX10_lay hq1.symm aq kq trivial) rfl)
  · simp only [if_neg hq2] at h
    simp only [Prod.mk.injEq] at h
    obtain ⟨-, hI, hJ⟩ := h
    exact (congrFun (congrFun hJ aq) kq).symm.trans (Eq.trans (fjX10_lay hq1.symm aq kq trivial) rfl)
set_option maxHeartbeats 4000000 in
set_option maxRecDepth 100000 in
theorem qX10_bears {G : Gx} {σ : State} (hC : Cz G σ) {sh : Sh} {I : Mi} {J : Mj} (q t : Int) (hS : St sh) (hn : NX (I 59)) (hy : NY (I 59)) (rq : -2147483648 ≤ q ∧ q < 2147483648) (rt : -2147483648 ≤ t ∧ t < 2147483648) : Ce G σ 3 yX10_bears cX10_bears 4 (some .int) [.ref (G.2.2 + 57), .int (iv (q)), .int (iv (t))] (sh, I, J) 0 0 (some (.int (iv ((fX10_bears q t (I, J)).1)))) (sh, (fX10_bears q t (I, J)).2.1, (fX10_bears q t (I, J)).2.2) := by
  refine Ct.of hC (by decide +kernel) (Nat.le_of_ble_eq_true rfl) ?_
  intro p l e R s m args below meth c C
  show Jz G σ p l e R s m args below meth c 4 0 0 (Qx (some (.int (iv ((fX10_bears q t (I, J)).1)))) (sh, (fX10_bears q t (I, J)).2.1, (fX10_bears q t (I, J)).2.2)) (sh, I, J) 0 0 0 [(0, .ref (G.2.2 + 57)), (1, .int (iv (q))), (2, .int (iv (t)))] []
  refine z_aload_n C dX10_bears_0 0 rfl ?_
  refine z_iconst C dX10_bears_1 ?_
  refine z_putI C dX10_bears_2 fX10_83 rfl rfl (kd_57 hS) rfl rfl ?_
  refine z_aload_n C dX10_bears_5 0 rfl ?_
  refine z_cVvF (st := []) (F := fX10_lay ((wi I 57 0 0), J)) C dX10_bears_6 mX10_167 (kd_57 hS) (qX10_lay hC  hS) rfl rfl (Nat.le_of_ble_eq_true rfl) (by decide) (fun r1 I2 J3 hT4 => ?_)
  have hn5 : NX (I2 59) := nxX10_lay hT4 hn
  have hy6 : NY (I2 59) := nyX10_lay hT4 hy
  have e108 := (show gi I2 59 108 = gi I 59 108 from (Eq.trans (gi_fk (frX10_lay hT4 59 108 (by decide))) (gi_wi_na _ _ _ _ (by decide))))
  have e0 := (show gi I2 59 0 = gi I 59 0 from (Eq.trans (gi_fk (frX10_lay hT4 59 0 (by decide))) (gi_wi_na _ _ _ _ (by decide))))
  have e1 := (show gi I2 59 1 = gi I 59 1 from (Eq.trans (gi_fk (frX10_lay hT4 59 1 (by decide))) (gi_wi_na _ _ _ _ (by decide))))
  have e112 := (show gi I2 59 112 = gi I 59 112 from (Eq.trans (gi_fk (frX10_lay hT4 59 112 (by decide))) (gi_wi_na _ _ _ _ (by decide))))
  have e113 := (show gi I2 59 113 = gi I 59 113 from (Eq.trans (gi_fk (frX10_lay hT4 59 113 (by decide))) (gi_wi_na _ _ _ _ (by decide))))
  have b108 := nx_c hn5
  have b0 := nx_p hn5
  have b1 := nx_m hn5
  have b112 := nx_s hn5
  have b113 := nx_sl hn5
  have b6 := nx_st hn5
  refine z_aload_n C dX10_bears_9 0 rfl ?_
  refine z_iload_n C dX10_bears_10 1 rfl ?_
  refine z_cVi (st := []) C dX10_bears_11 mX10_282 (kd_57 hS) (qX10_isCoin hC q hS rq) rfl rfl (Nat.le_of_ble_eq_true rfl) (by decide) ?_
  refine z_eqi (b2 (0 ≤ q ∧ q < gi I 59 108)) (b2_iff (by rw [show gi I2 59 108 = gi I 59 108 from (Eq.trans (gi_fk (frX10_lay hT4 59 108 (by decide))) (gi_wi_na _ _ _ _ (by decide)))])) ?_
  refine z_if_eq_b 25 C dX10_bears_14 (by decide) (fun h7 => ?_) (fun h7 => ?_)
  ·
    refine z_iconst C dX10_bears_25 ?_
    have hf8 : fX10_bears q t (I, J) = (-1, I2, J3) := (by simp only [fX10_bears, hT4, if_neg h7])
    exact z_ireturnx C dX10_bears_26 (by rw [hf8]) (by rw [hf8])
  ·
    refine z_aload_n C dX10_bears_17 0 rfl ?_
    refine z_iload_n C dX10_bears_18 2 rfl ?_
    refine z_cVi (st := []) C dX10_bears_19 mX10_259 (kd_57 hS) (qX10_isMint hC t hS rt) rfl rfl (Nat.le_of_ble_eq_true rfl) (by decide) ?_
    refine z_eqi (b2 (0 ≤ t ∧ t < gi I 59 1)) (b2_iff (by rw [show gi I2 59 1 = gi I 59 1 from (Eq.trans (gi_fk (frX10_lay hT4 59 1 (by decide))) (gi_wi_na _ _ _ _ (by decide)))])) ?_
    refine z_if_ne_b 27 C dX10_bears_22 (by decide) (fun h9 => ?_) (fun h9 => ?_)
    ·
      have hls := (nx_ls hn5 (q := t) (by omega) (by omega)).1
      have hgr := ny_g hy6 (q := q) (by omega) (by omega)
      have hhd := ny_h hy6 (q := q) (by omega) (by omega)
      refine z_iconst C dX10_bears_27 ?_
      refine z_istore_n (lv' := [(0, .ref (G.2.2 + 57)), (1, .int (iv (q))), (2, .int (iv (t))), (3, .int (iv (0)))]) C dX10_bears_28 rfl (by decide) [1, 2, 3, 0] rfl ?_
      have hE14 : ∀ (n : Int), (0 ≤ n ∧ n ≤ 9) → wh (beC (I2 59) q t) inc1 ((9 - 0 : Int).toNat + 1) 0 = n → Jz G σ p l e R s m args below meth c 4 0 0 (Qx (some (.int (iv ((fX10_bears q t (I, J)).1)))) (sh, (fX10_bears q t (I, J)).2.1, (fX10_bears q t (I, J)).2.2)) (sh, I2, J3) 0 0 66 [(0, .ref (G.2.2 + 57)), (1, .int (iv (q))), (2, .int (iv (t))), (3, .int (iv (n)))] [] := by
        intro n hn9 hx15
        refine z_iload_n C dX10_bears_66 3 rfl ?_
        have hf17 : fX10_bears q t (I, J) = (n, I2, J3) := (by simp only [fX10_bears, hT4, if_pos h7, if_pos h9, hx15])
        exact z_ireturnx C dX10_bears_67 (by rw [hf17]) (by rw [hf17])
      have hL11 : ∀ (N10 : Nat) (n : Int), (0 ≤ n ∧ n ≤ 9) → wh (beC (I2 59) q t) inc1 N10 n = wh (beC (I2 59) q t) inc1 ((9 - 0 : Int).toNat + 1) 0 → (9 - n : Int).toNat < N10 → Jz G σ p l e R s m args below meth c 4 0 0 (Qx (some (.int (iv ((fX10_bears q t (I, J)).1)))) (sh, (fX10_bears q t (I, J)).2.1, (fX10_bears q t (I, J)).2.2)) (sh, I2, J3) 0 0 29 [(0, .ref (G.2.2 + 57)), (1, .int (iv (q))), (2, .int (iv (t))), (3, .int (iv (n)))] [] := by
        intro N10
        induction N10 with
        | zero => intro n hn9 hi13 hm; exact absurd hm (Nat.not_lt_zero _)
        | succ N10 ih12 =>
          intro n hn9 hi13 hm
          refine z_aload_n C dX10_bears_29 0 rfl ?_
          refine z_aload_n C dX10_bears_30 0 rfl ?_
          refine z_iload_n C dX10_bears_31 1 rfl ?_
          refine z_iconst C dX10_bears_32 ?_
          refine z_cVi (st := [.ref (G.2.2 + 57)]) C dX10_bears_33 mX10_256 (kd_57 hS) (qX10_ofCoin hC q 0 hS (by omega) (by omega)) rfl rfl (Nat.le_of_ble_eq_true rfl) (by decide) ?_
          refine z_iload_n C dX10_bears_36 3 rfl ?_
          refine z_aload_n C dX10_bears_37 0 rfl ?_
          refine z_iload_n C dX10_bears_38 2 rfl ?_
          refine z_iconst C dX10_bears_39 ?_
          refine z_cVi (st := [.int (iv (n)), .int (iv (gi I2 59 (120 + 32 * q + 0).toNat)), .ref (G.2.2 + 57)]) C dX10_bears_40 mX10_262 (kd_57 hS) (qX10_ofMint hC t 0 hS (by omega) (by omega)) rfl rfl (Nat.le_of_ble_eq_true rfl) (by decide) ?_
          refine z_imul C dX10_bears_43 ?_
          refine z_isub C dX10_bears_44 ?_
          refine z_aload_n C dX10_bears_45 0 rfl ?_
          refine z_iload_n C dX10_bears_46 1 rfl ?_
          refine z_iconst C dX10_bears_47 ?_
          refine z_cVi (st := [.int (iv ((gi I2 59 (120 + 32 * q + 0).toNat) - (n * (gi I2 59 (32 + 3 * t + 0).toNat)))), .ref (G.2.2 + 57)]) C dX10_bears_48 mX10_256 (kd_57 hS) (qX10_ofCoin hC q 2 hS (by omega) (by omega)) rfl rfl (Nat.le_of_ble_eq_true rfl) (by decide) ?_
          refine z_iload_n C dX10_bears_51 3 rfl ?_
          refine z_iadd C dX10_bears_52 ?_
          have hmu := mulb2 hn9 hls
          refine z_iload_n C dX10_bears_53 2 rfl ?_
          refine z_cVi (st := []) C dX10_bears_54 mX10_265 (kd_57 hS) (qX10_wrongStroke hC ((gi I2 59 (120 + 32 * q + 0).toNat) - (n * (gi I2 59 (32 + 3 * t + 0).toNat))) ((gi I2 59 (120 + 32 * q + 2).toNat) + n) t hS (by omega) (by have := gi_rng I2 59 ((120 + 32 * q + 0).toNat); have := gi_rng I2 59 ((32 + 3 * t + 0).toNat); have := gi_rng I2 59 (120 + 32 * q + 0).toNat; have := gi_rng I2 59 (32 + 3 * t + 0).toNat; omega) (by have := gi_rng I2 59 ((32 + 3 * t + 0).toNat); have := gi_rng I2 59 (32 + 3 * t + 0).toNat; omega) (by have := gi_rng I2 59 ((120 + 32 * q + 2).toNat); have := gi_rng I2 59 (120 + 32 * q + 2).toNat; omega)) rfl rfl (Nat.le_of_ble_eq_true rfl) (by decide) ?_
          refine z_if_ne 66 C dX10_bears_57 (by decide) (gX10_wrongStroke_rng _ _ _ _) (fun h18 => ?_) (fun h18 => ?_)
          ·
            exact hE14 n hn9 (wh_exit hi13 (decide_eq_false (by show ¬ gX10_wrongStroke (gi I2 59 _ - n * gi I2 59 _) (gi I2 59 _ + n) t (I2 59) = 0; assumption)))
          ·
            have hw0 := wrong0 h18
            refine z_iinc (lv' := [(0, .ref (G.2.2 + 57)), (1, .int (iv (q))), (2, .int (iv (t))), (3, .int (iv (n + 1)))]) C dX10_bears_60 3 rfl (by decide) [1, 2, 3, 0] rfl ?_
            refine z_goto 29 C dX10_bears_63 (by decide) ?_
            exact ih12 (n + 1) (by rw [← gi_gn] at hw0; omega) (wh_back hi13 (decide_eq_true (by show gX10_wrongStroke (gi I2 59 _ - n * gi I2 59 _) (gi I2 59 _ + n) t (I2 59) = 0; assumption)) rfl) (by rw [← gi_gn] at hw0; omega)
      exact hL11 _ 0 (by omega) rfl (Nat.lt_succ_self _)
    ·
      refine z_iconst C dX10_bears_25 ?_
      have hf19 : fX10_bears q t (I, J) = (-1, I2, J3) := (by simp only [fX10_bears, hT4, if_pos h7, if_neg h9])
      exact z_ireturnx C dX10_bears_26 (by rw [hf19]) (by rw [hf19])

noncomputable def fX10_coin (w : Int) (g : Int) (t : Int) (S : Mi × Mj) : Int × Mi × Mj :=
  match S with
  | (I, J) =>
    match fX10_lay ((wi I 57 0 0), J) with
    | (r1, I2, J3) =>
      if 0 ≤ w ∧ w < gi I 59 0 then
        if 0 < (gi I2 59 (8 + 3 * w + 2).toNat) then
          (-1, I2, J3)
        else
          if 1 ≤ g ∧ g ≤ 9999 then
            if 0 ≤ t ∧ t < gi I 59 1 then
              if (gi I 59 108) = 40 then
                (-1, I2, J3)
              else
                if 500 < gi I 59 112 + 1 then
                  (-1, I2, J3)
                else
                  if (gX10_wrongStroke g 0 t (I2 59)) = 0 then
                    match fX10_snap (I2, J3) with
                    | (r20, I21, J22) =>
                      match 120 + (32 * (gi I 59 108)) with
                      | b =>
                        (gi I 59 108, (skM (gi I 59 108) w t (-1) 0 0 (wi (wi (wi (wi (fl I21 59 b 0 32) 59 ((b + 0).toNat) g) 59 ((b + 1).toNat) w) 59 108 ((gi I 59 108) + 1)) 59 114 ((gi I 59 114) + g))), J22)
                  else
                    (-1, I2, J3)
            else
              (-1, I2, J3)
          else
            (-1, I2, J3)
      else
        (-1, I2, J3)
theorem frX10_coin {w : Int} {g : Int} {t : Int} {S : Mi × Mj} {r0 : Int} {I0 : Mi} {J0 : Mj} (h : fX10_coin w g t S = (r0, I0, J0)) (aq kq : Nat) (haq : aq ≠ 59 ∧ aq ≠ 62 ∧ ¬ (aq = 57 ∧ kq = 0) ∧ ¬ (aq = 57 ∧ kq = 22) ∧ ¬ (aq = 57 ∧ kq = 23)) : I0 aq kq = S.1 aq kq := by
  obtain ⟨I, J⟩ := S
  unfold fX10_coin at h
  try simp only at h
  obtain ⟨⟨r1, I2, J3⟩, hq1⟩ : ∃ q, q = fX10_lay ((wi I 57 0 0), J) := ⟨_, rfl⟩
  rw [← hq1] at h; try simp only at h
  by_cases hq2 : 0 ≤ w ∧ w < gi I 59 0
  · simp only [if_pos hq2] at h
    by_cases hq3 : 0 < (gi I2 59 (8 + 3 * w + 2).toNat)
    · simp only [if_pos hq3] at h
      simp only [Prod.mk.injEq] at h
      obtain ⟨-, hI, hJ⟩ := h
      exact (congrFun (congrFun hI aq) kq).symm.trans (Eq.trans (frX10_lay hq1.symm aq kq ⟨haq.2.2.2.1, (fun q => haq.1 q.1), (fun q => haq.1 q.1), (fun q => haq.1 q.1), (fun q => haq.1 q.1), (fun q => haq.1 q.1)⟩) (Eq.trans (wi_nc _ _ haq.2.2.1) rfl))
    · simp only [if_neg hq3] at h
      by_cases hq4 : 1 ≤ g ∧ g ≤ 9999
      · simp only [if_pos hq4] at h
        by_cases hq5 : 0 ≤ t ∧ t < gi I 59 1
        · simp only [if_pos hq5] at h
          by_cases hq6 : (gi I 59 108) = 40
          · simp only [if_pos hq6] at h
            simp only [Prod.mk.injEq] at h
            obtain ⟨-, hI, hJ⟩ := h
            exact (congrFun (congrFun hI aq) kq).symm.trans (Eq.trans (frX10_lay hq1.symm aq kq ⟨haq.2.2.2.1, (fun q => haq.1 q.1), (fun q => haq.1 q.1), (fun q => haq.1 q.1), (fun q => haq.1 q.1), (fun q => haq.1 q.1)⟩) (Eq.trans (wi_nc _ _ haq.2.2.1) rfl))
          · simp only [if_neg hq6] at h
            by_cases hq7 : 500 < gi I 59 112 + 1
            · simp only [if_pos hq7] at h
              simp only [Prod.mk.injEq] at h
              obtain ⟨-, hI, hJ⟩ := h
              exact (congrFun (congrFun hI aq) kq).symm.trans (Eq.trans (frX10_lay hq1.symm aq kq ⟨haq.2.2.2.1, (fun q => haq.1 q.1), (fun q => haq.1 q.1), (fun q => haq.1 q.1), (fun q => haq.1 q.1), (fun q => haq.1 q.1)⟩) (Eq.trans (wi_nc _ _ haq.2.2.1) rfl))
            · simp only [if_neg hq7] at h
              by_cases hq8 : (gX10_wrongStroke g 0 t (I2 59)) = 0
              · simp only [if_pos hq8] at h
                obtain ⟨⟨r20, I21, J22⟩, hq9⟩ : ∃ q, q = fX10_snap (I2, J3) := ⟨_, rfl⟩
                rw [← hq9] at h; try simp only at h
                obtain ⟨b, hq10⟩ : ∃ q, q = 120 + (32 * (gi I 59 108)) := ⟨_, rfl⟩
                try rw [← hq10] at h
                try simp only at h
                simp only [Prod.mk.injEq] at h
                obtain ⟨-, hI, hJ⟩ := h
                exact (congrFun (congrFun hI aq) kq).symm.trans (Eq.trans ((skM_fr (gi I 59 108) w t (-1) 0 0 (wi (wi (wi (wi (fl I21 59 b 0 32) 59 ((b + 0).toNat) g) 59 ((b + 1).toNat) w) 59 108 ((gi I 59 108) + 1)) 59 114 ((gi I 59 114) + g))) aq kq haq.1) (Eq.trans (wi_nc _ _ (fun q => haq.1 q.1)) (Eq.trans (wi_nc _ _ (fun q => haq.1 q.1)) (Eq.trans (wi_nc _ _ (fun q => haq.1 q.1)) (Eq.trans (wi_nc _ _ (fun q => haq.1 q.1)) (Eq.trans (fl_fr I21 59 b 0 32 aq kq haq.1) (Eq.trans (frX10_snap hq9.symm aq kq ⟨haq.2.1, haq.2.2.2.2⟩) (Eq.trans (frX10_lay hq1.symm aq kq ⟨haq.2.2.2.1, (fun q => haq.1 q.1), (fun q => haq.1 q.1), (fun q => haq.1 q.1), (fun q => haq.1 q.1), (fun q => haq.1 q.1)⟩) (Eq.trans (wi_nc _ _ haq.2.2.1) rfl)))))))))
              · simp only [if_neg hq8] at h
                simp only [Prod.mk.injEq] at h
                obtain ⟨-, hI, hJ⟩ := h
                exact (congrFun (congrFun hI aq) kq).symm.trans (Eq.trans (frX10_lay hq1.symm aq kq ⟨haq.2.2.2.1, (fun q => haq.1 q.1), (fun q => haq.1 q.1), (fun q => haq.1 q.1), (fun q => haq.1 q.1), (fun q => haq.1 q.1)⟩) (Eq.trans (wi_nc _ _ haq.2.2.1) rfl))
        · simp only [if_neg hq5] at h
          simp only [Prod.mk.injEq] at h
          obtain ⟨-, hI, hJ⟩ := h
          exact (congrFun (congrFun hI aq) kq).symm.trans (Eq.trans (frX10_lay hq1.symm aq kq ⟨haq.2.2.2.1, (fun q => haq.1 q.1), (fun q => haq.1 q.1), (fun q => haq.1 q.1), (fun q => haq.1 q.1), (fun q => haq.1 q.1)⟩) (Eq.trans (wi_nc _ _ haq.2.2.1) rfl))
      · simp only [if_neg hq4] at h
        simp only [Prod.mk.injEq] at h
        obtain ⟨-, hI, hJ⟩ := h
        exact (congrFun (congrFun hI aq) kq).symm.trans (Eq.trans (frX10_lay hq1.symm aq kq ⟨haq.2.2.2.1, (fun q => haq.1 q.1), (fun q => haq.1 q.1), (fun q => haq.1 q.1), (fun q => haq.1 q.1), (fun q => haq.1 q.1)⟩) (Eq.trans (wi_nc _ _ haq.2.2.1) rfl))
  · simp only [if_neg hq2] at h
    simp only [Prod.mk.injEq] at h
    obtain ⟨-, hI, hJ⟩ := h
    exact (congrFun (congrFun hI aq) kq).symm.trans (Eq.trans (frX10_lay hq1.symm aq kq ⟨haq.2.2.2.1, (fun q => haq.1 q.1), (fun q => haq.1 q.1), (fun q => haq.1 q.1), (fun q => haq.1 q.1), (fun q => haq.1 q.1)⟩) (Eq.trans (wi_nc _ _ haq.2.2.1) rfl))
theorem fjX10_coin {w : Int} {g : Int} {t : Int} {S : Mi × Mj} {r0 : Int} {I0 : Mi} {J0 : Mj} (h : fX10_coin w g t S = (r0, I0, J0)) (aq kq : Nat) (haq : True) : J0 aq kq = S.2 aq kq := by
  obtain ⟨I, J⟩ := S
  unfold fX10_coin at h
  try simp only at h
  obtain ⟨⟨r1, I2, J3⟩, hq1⟩ : ∃ q, q = fX10_lay ((wi I 57 0 0), J) := ⟨_, rfl⟩
  rw [← hq1] at h; try simp only at h
  by_cases hq2 : 0 ≤ w ∧ w < gi I 59 0
  · simp only [if_pos hq2] at h
    by_cases hq3 : 0 < (gi I2 59 (8 + 3 * w + 2).toNat)
    · simp only [if_pos hq3] at h
      simp only [Prod.mk.injEq] at h
      obtain ⟨-, hI, hJ⟩ := h
      exact (congrFun (congrFun hJ aq) kq).symm.trans (Eq.trans (fjX10_lay hq1.symm aq kq trivial) rfl)
    · simp only [if_neg hq3] at h
      by_cases hq4 : 1 ≤ g ∧ g ≤ 9999
      · simp only [if_pos hq4] at h
        by_cases hq5 : 0 ≤ t ∧ t < gi I 59 1
        · simp only [if_pos hq5] at h
          by_cases hq6 : (gi I 59 108) = 40
          · simp only [if_pos hq6] at h
            simp only [Prod.mk.injEq] at h
            obtain ⟨-, hI, hJ⟩ := h
            exact (congrFun (congrFun hJ aq) kq).symm.trans (Eq.trans (fjX10_lay hq1.symm aq kq trivial) rfl)
          · simp only [if_neg hq6] at h
            by_cases hq7 : 500 < gi I 59 112 + 1
            · simp only [if_pos hq7] at h
              simp only [Prod.mk.injEq] at h
              obtain ⟨-, hI, hJ⟩ := h
              exact (congrFun (congrFun hJ aq) kq).symm.trans (Eq.trans (fjX10_lay hq1.symm aq kq trivial) rfl)
            · simp only [if_neg hq7] at h
              by_cases hq8 : (gX10_wrongStroke g 0 t (I2 59)) = 0
              · simp only [if_pos hq8] at h
                obtain ⟨⟨r20, I21, J22⟩, hq9⟩ : ∃ q, q = fX10_snap (I2, J3) := ⟨_, rfl⟩
                rw [← hq9] at h; try simp only at h
                obtain ⟨b, hq10⟩ : ∃ q, q = 120 + (32 * (gi I 59 108)) := ⟨_, rfl⟩
                try rw [← hq10] at h
                try simp only at h
                simp only [Prod.mk.injEq] at h
                obtain ⟨-, hI, hJ⟩ := h
                exact (congrFun (congrFun hJ aq) kq).symm.trans (Eq.trans (fjX10_snap hq9.symm aq kq trivial) (Eq.trans (fjX10_lay hq1.symm aq kq trivial) rfl))
              · simp only [if_neg hq8] at h
                simp only [Prod.mk.injEq] at h
                obtain ⟨-, hI, hJ⟩ := h
                exact (congrFun (congrFun hJ aq) kq).symm.trans (Eq.trans (fjX10_lay hq1.symm aq kq trivial) rfl)
        · simp only [if_neg hq5] at h
          simp only [Prod.mk.injEq] at h
          obtain ⟨-, hI, hJ⟩ := h
          exact (congrFun (congrFun hJ aq) kq).symm.trans (Eq.trans (fjX10_lay hq1.symm aq kq trivial) rfl)
      · simp only [if_neg hq4] at h
        simp only [Prod.mk.injEq] at h
        obtain ⟨-, hI, hJ⟩ := h
        exact (congrFun (congrFun hJ aq) kq).symm.trans (Eq.trans (fjX10_lay hq1.symm aq kq trivial) rfl)
  · simp only [if_neg hq2] at h
    simp only [Prod.mk.injEq] at h
    obtain ⟨-, hI, hJ⟩ := h
    exact (congrFun (congrFun hJ aq) kq).symm.trans (Eq.trans (fjX10_lay hq1.symm aq kq trivial) rfl)
set_option maxHeartbeats 4000000 in
set_option maxRecDepth 100000 in
theorem qX10_coin {G : Gx} {σ : State} (hC : Cz G σ) {sh : Sh} {I : Mi} {J : Mj} (w g t : Int) (hS : St sh) (hn : NX (I 59)) (hy : NY (I 59)) (hsn : 0 ≤ gi I 57 23 ∧ gi I 57 23 ≤ 6) (rw : -2147483648 ≤ w ∧ w < 2147483648) (rg : -2147483648 ≤ g ∧ g < 2147483648) (rt : -2147483648 ≤ t ∧ t < 2147483648) : Ce G σ 3 yX10_coin cX10_coin 7 (some .int) [.ref (G.2.2 + 57), .int (iv (w)), .int (iv (g)), .int (iv (t))] (sh, I, J) 0 0 (some (.int (iv ((fX10_coin w g t (I, J)).1)))) (sh, (fX10_coin w g t (I, J)).2.1, (fX10_coin w g t (I, J)).2.2) := by
  refine Ct.of hC (by decide +kernel) (Nat.le_of_ble_eq_true rfl) ?_
  intro p l e R s m args below meth c C
  show Jz G σ p l e R s m args below meth c 7 0 0 (Qx (some (.int (iv ((fX10_coin w g t (I, J)).1)))) (sh, (fX10_coin w g t (I, J)).2.1, (fX10_coin w g t (I, J)).2.2)) (sh, I, J) 0 0 0 [(0, .ref (G.2.2 + 57)), (1, .int (iv (w))), (2, .int (iv (g))), (3, .int (iv (t)))] []
  refine z_aload_n C dX10_coin_0 0 rfl ?_
  refine z_iconst C dX10_coin_1 ?_
  refine z_putI C dX10_coin_2 fX10_83 rfl rfl (kd_57 hS) rfl rfl ?_
  refine z_aload_n C dX10_coin_5 0 rfl ?_
  refine z_cVvF (st := []) (F := fX10_lay ((wi I 57 0 0), J)) C dX10_coin_6 mX10_167 (kd_57 hS) (qX10_lay hC  hS) rfl rfl (Nat.le_of_ble_eq_true rfl) (by decide) (fun r1 I2 J3 hT4 => ?_)
  have hn5 : NX (I2 59) := nxX10_lay hT4 hn
  have hy6 : NY (I2 59) := nyX10_lay hT4 hy
  have e108 := (show gi I2 59 108 = gi I 59 108 from (Eq.trans (gi_fk (frX10_lay hT4 59 108 (by decide))) (gi_wi_na _ _ _ _ (by decide))))
  have e0 := (show gi I2 59 0 = gi I 59 0 from (Eq.trans (gi_fk (frX10_lay hT4 59 0 (by decide))) (gi_wi_na _ _ _ _ (by decide))))
  have e1 := (show gi I2 59 1 = gi I 59 1 from (Eq.trans (gi_fk (frX10_lay hT4 59 1 (by decide))) (gi_wi_na _ _ _ _ (by decide))))
  have e112 := (show gi I2 59 112 = gi I 59 112 from (Eq.trans (gi_fk (frX10_lay hT4 59 112 (by decide))) (gi_wi_na _ _ _ _ (by decide))))
  have e113 := (show gi I2 59 113 = gi I 59 113 from (Eq.trans (gi_fk (frX10_lay hT4 59 113 (by decide))) (gi_wi_na _ _ _ _ (by decide))))
  have b108 := nx_c hn5
  have b0 := nx_p hn5
  have b1 := nx_m hn5
  have b112 := nx_s hn5
  have b113 := nx_sl hn5
  have b6 := nx_st hn5
  refine z_aload_n C dX10_coin_9 0 rfl ?_
  refine z_iload_n C dX10_coin_10 1 rfl ?_
  refine z_cVi (st := []) C dX10_coin_11 mX10_243 (kd_57 hS) (qX10_isWho hC w hS rw) rfl rfl (Nat.le_of_ble_eq_true rfl) (by decide) ?_
  refine z_eqi (b2 (0 ≤ w ∧ w < gi I 59 0)) (b2_iff (by rw [show gi I2 59 0 = gi I 59 0 from (Eq.trans (gi_fk (frX10_lay hT4 59 0 (by decide))) (gi_wi_na _ _ _ _ (by decide)))])) ?_
  refine z_if_eq_b 72 C dX10_coin_14 (by decide) (fun h7 => ?_) (fun h7 => ?_)
  ·
    refine z_iconst C dX10_coin_72 ?_
    have hf8 : fX10_coin w g t (I, J) = (-1, I2, J3) := (by simp only [fX10_coin, hT4, if_neg h7])
    exact z_ireturnx C dX10_coin_73 (by rw [hf8]) (by rw [hf8])
  ·
    refine z_aload_n C dX10_coin_17 0 rfl ?_
    refine z_iload_n C dX10_coin_18 1 rfl ?_
    refine z_iconst C dX10_coin_19 ?_
    refine z_cVi (st := []) C dX10_coin_20 mX10_249 (kd_57 hS) (qX10_ofWho hC w 2 hS (by omega) (by omega)) rfl rfl (Nat.le_of_ble_eq_true rfl) (by decide) ?_
    refine z_if_gt 72 C dX10_coin_23 (by decide) (gi_rng _ _ _) (fun h9 => ?_) (fun h9 => ?_)
    ·
      refine z_iconst C dX10_coin_72 ?_
      have hf10 : fX10_coin w g t (I, J) = (-1, I2, J3) := (by simp only [fX10_coin, hT4, if_pos h7, if_pos h9])
      exact z_ireturnx C dX10_coin_73 (by rw [hf10]) (by rw [hf10])
    ·
      refine z_iload_n C dX10_coin_26 2 rfl ?_
      refine z_iconst C dX10_coin_27 ?_
      refine z_sipush C dX10_coin_28 (by decide) ?_
      refine z_cSi (st := []) C dX10_coin_31 mX10_154 (qX10_isIn hC g 1 9999 rg (by omega) (by omega)) rfl rfl (Nat.le_of_ble_eq_true rfl) (by decide) ?_
      refine z_if_eq_b 72 C dX10_coin_34 (by decide) (fun h11 => ?_) (fun h11 => ?_)
      ·
        refine z_iconst C dX10_coin_72 ?_
        have hf12 : fX10_coin w g t (I, J) = (-1, I2, J3) := (by simp only [fX10_coin, hT4, if_pos h7, if_neg h9, if_neg h11])
        exact z_ireturnx C dX10_coin_73 (by rw [hf12]) (by rw [hf12])
      ·
        refine z_aload_n C dX10_coin_37 0 rfl ?_
        refine z_iload_n C dX10_coin_38 3 rfl ?_
        refine z_cVi (st := []) C dX10_coin_39 mX10_259 (kd_57 hS) (qX10_isMint hC t hS rt) rfl rfl (Nat.le_of_ble_eq_true rfl) (by decide) ?_
        refine z_eqi (b2 (0 ≤ t ∧ t < gi I 59 1)) (b2_iff (by rw [show gi I2 59 1 = gi I 59 1 from (Eq.trans (gi_fk (frX10_lay hT4 59 1 (by decide))) (gi_wi_na _ _ _ _ (by decide)))])) ?_
        refine z_if_eq_b 72 C dX10_coin_42 (by decide) (fun h13 => ?_) (fun h13 => ?_)
        ·
          refine z_iconst C dX10_coin_72 ?_
          have hf14 : fX10_coin w g t (I, J) = (-1, I2, J3) := (by simp only [fX10_coin, hT4, if_pos h7, if_neg h9, if_pos h11, if_neg h13])
          exact z_ireturnx C dX10_coin_73 (by rw [hf14]) (by rw [hf14])
        ·
          refine z_aload_n C dX10_coin_45 0 rfl ?_
          refine z_cVi (st := []) C dX10_coin_46 mX10_188 (kd_57 hS) (qX10_coins hC  hS) rfl rfl (Nat.le_of_ble_eq_true rfl) (by decide) ?_
          refine z_eqi (gi I 59 108) (by rw [show gi I2 59 108 = gi I 59 108 from (Eq.trans (gi_fk (frX10_lay hT4 59 108 (by decide))) (gi_wi_na _ _ _ _ (by decide)))]) ?_
          refine z_bipush C dX10_coin_49 (by decide) ?_
          refine z_icmp_eq 72 C dX10_coin_51 (by decide) (gi_rng _ _ _) (by decide) (fun h15 => ?_) (fun h15 => ?_)
          ·
            refine z_iconst C dX10_coin_72 ?_
            have hf16 : fX10_coin w g t (I, J) = (-1, I2, J3) := (by simp only [fX10_coin, hT4, if_pos h7, if_neg h9, if_pos h11, if_pos h13, if_pos h15])
            exact z_ireturnx C dX10_coin_73 (by rw [hf16]) (by rw [hf16])
          ·
            refine z_aload_n C dX10_coin_54 0 rfl ?_
            refine z_iconst C dX10_coin_55 ?_
            refine z_cVi (st := []) C dX10_coin_56 mX10_269 (kd_57 hS) (qX10_isFull hC 1 hS (by omega) (by have : gi I2 59 112 = gi I 59 112 := (Eq.trans (gi_fk (frX10_lay hT4 59 112 (by decide))) (gi_wi_na _ _ _ _ (by decide))); have := gi_rng I 59 112; have := gi_rng I2 59 112; omega)) rfl rfl (Nat.le_of_ble_eq_true rfl) (by decide) ?_
            refine z_eqi (b2 (500 < gi I 59 112 + 1)) (b2_iff (by rw [show gi I2 59 112 = gi I 59 112 from (Eq.trans (gi_fk (frX10_lay hT4 59 112 (by decide))) (gi_wi_na _ _ _ _ (by decide)))])) ?_
            refine z_if_ne_b 72 C dX10_coin_59 (by decide) (fun h17 => ?_) (fun h17 => ?_)
            ·
              refine z_iconst C dX10_coin_72 ?_
              have hf18 : fX10_coin w g t (I, J) = (-1, I2, J3) := (by simp only [fX10_coin, hT4, if_pos h7, if_neg h9, if_pos h11, if_pos h13, if_neg h15, if_pos h17])
              exact z_ireturnx C dX10_coin_73 (by rw [hf18]) (by rw [hf18])
            ·
              have ho := (nx_ls hn5 (q := t) (by omega) (by omega))
              have ho1 := ho.1
              refine z_aload_n C dX10_coin_62 0 rfl ?_
              refine z_iload_n C dX10_coin_63 2 rfl ?_
              refine z_iconst C dX10_coin_64 ?_
              refine z_iload_n C dX10_coin_65 3 rfl ?_
              refine z_cVi (st := []) C dX10_coin_66 mX10_265 (kd_57 hS) (qX10_wrongStroke hC g 0 t hS (by omega) (by omega) (by have := gi_rng I2 59 ((32 + 3 * t + 0).toNat); have := gi_rng I2 59 (32 + 3 * t + 0).toNat; omega) (by omega)) rfl rfl (Nat.le_of_ble_eq_true rfl) (by decide) ?_
              refine z_if_eq 74 C dX10_coin_69 (by decide) (gX10_wrongStroke_rng _ _ _ _) (fun h19 => ?_) (fun h19 => ?_)
              ·
                refine z_aload_n C dX10_coin_74 0 rfl ?_
                refine z_cVvF (st := []) (F := fX10_snap (I2, J3)) C dX10_coin_75 mX10_272 (kd_57 hS) (qX10_snap hC  hS (by have : gi I2 57 23 = gi I 57 23 := (Eq.trans (gi_fk (frX10_lay hT4 57 23 (by decide))) (gi_wi_nk _ _ _ (by decide))); have := gi_rng I 57 23; have := gi_rng I2 57 23; omega)) rfl rfl (Nat.le_of_ble_eq_true rfl) (by decide) (fun r20 I21 J22 hT23 => ?_)
                refine z_aload_n C dX10_coin_78 0 rfl ?_
                refine z_cVi (st := []) C dX10_coin_79 mX10_188 (kd_57 hS) (qX10_coins hC  hS) rfl rfl (Nat.le_of_ble_eq_true rfl) (by decide) ?_
                refine z_eqi (gi I 59 108) (by rw [show gi I21 59 108 = gi I 59 108 from (Eq.trans (gi_fk (frX10_snap hT23 59 108 (by decide))) (Eq.trans (gi_fk (frX10_lay hT4 59 108 (by decide))) (gi_wi_na _ _ _ _ (by decide))))]) ?_
                refine z_istore (lv' := [(0, .ref (G.2.2 + 57)), (1, .int (iv (w))), (2, .int (iv (g))), (3, .int (iv (t))), (4, .int (iv (gi I 59 108)))]) C dX10_coin_82 (by decide) [1, 2, 3, 4, 0] rfl ?_
                have s108 : gi I21 59 108 = gi I 59 108 := (gi_fk (frX10_snap hT23 59 108 (by decide))).trans (show gi I2 59 108 = gi I 59 108 from (Eq.trans (gi_fk (frX10_lay hT4 59 108 (by decide))) (gi_wi_na _ _ _ _ (by decide))))
                have s112 : gi I21 59 112 = gi I 59 112 := (gi_fk (frX10_snap hT23 59 112 (by decide))).trans (show gi I2 59 112 = gi I 59 112 from (Eq.trans (gi_fk (frX10_lay hT4 59 112 (by decide))) (gi_wi_na _ _ _ _ (by decide))))
                have s114 : gi I21 59 114 = gi I 59 114 := (gi_fk (frX10_snap hT23 59 114 (by decide))).trans (show gi I2 59 114 = gi I 59 114 from (Eq.trans (gi_fk (frX10_lay hT4 59 114 (by decide))) (gi_wi_na _ _ _ _ (by decide))))
                have sbl : gi I21 59 (32 + 3 * t + 1).toNat = gi I2 59 (32 + 3 * t + 1).toNat := gi_fk (frX10_snap hT23 59 _ (by simp))
                have hbl0 : 0 ≤ gi I21 59 (32 + 3 * t + 1).toNat ∧ gi I21 59 (32 + 3 * t + 1).toNat ≤ 9 := by rw [sbl]; exact ho.2
                refine z_bipush C dX10_coin_84 (by decide) ?_
                refine z_bipush C dX10_coin_86 (by decide) ?_
                refine z_iload C dX10_coin_88 4 rfl ?_
                refine z_imul C dX10_coin_90 ?_
                refine z_iadd C dX10_coin_91 ?_
                refine z_nami (fun b hb => ?_)
                refine z_istore (lv' := [(0, .ref (G.2.2 + 57)), (1, .int (iv (w))), (2, .int (iv (g))), (3, .int (iv (t))), (4, .int (iv (gi I 59 108))), (5, .int (iv (b)))]) C dX10_coin_92 (by decide) [1, 2, 3, 4, 5, 0] rfl ?_
                refine z_iconst C dX10_coin_94 ?_
                refine z_istore (lv' := [(0, .ref (G.2.2 + 57)), (1, .int (iv (w))), (2, .int (iv (g))), (3, .int (iv (t))), (4, .int (iv (gi I 59 108))), (5, .int (iv (b))), (6, .int (iv (0)))]) C dX10_coin_95 (by decide) [1, 2, 3, 4, 5, 6, 0] rfl ?_
                have hE27 : Jz G σ p l e R s m args below meth c 7 0 0 (Qx (some (.int (iv ((fX10_coin w g t (I, J)).1)))) (sh, (fX10_coin w g t (I, J)).2.1, (fX10_coin w g t (I, J)).2.2)) (sh, (fl I21 59 b 0 32), J22) 0 0 121 [(0, .ref (G.2.2 + 57)), (1, .int (iv (w))), (2, .int (iv (g))), (3, .int (iv (t))), (4, .int (iv (gi I 59 108))), (5, .int (iv (b)))] [] := by
                  refine z_aload_n C dX10_coin_121 0 rfl ?_
                  refine z_getR C dX10_coin_122 fX10_13 rfl (kd_57 hS) (r_57_14 hS) ?_
                  refine z_iload C dX10_coin_125 5 rfl ?_
                  refine z_iconst C dX10_coin_127 ?_
                  refine z_iadd C dX10_coin_128 ?_
                  refine z_iload_n C dX10_coin_129 2 rfl ?_
                  refine z_iast (q := (b + 0).toNat) C dX10_coin_130 (ka_59 hS) (by omega) (by omega) ?_
                  refine z_aload_n C dX10_coin_131 0 rfl ?_
                  refine z_getR C dX10_coin_132 fX10_13 rfl (kd_57 hS) (r_57_14 hS) ?_
                  refine z_iload C dX10_coin_135 5 rfl ?_
                  refine z_iconst C dX10_coin_137 ?_
                  refine z_iadd C dX10_coin_138 ?_
                  refine z_iload_n C dX10_coin_139 1 rfl ?_
                  refine z_iast (q := (b + 1).toNat) C dX10_coin_140 (ka_59 hS) (by omega) (by omega) ?_
                  refine z_aload_n C dX10_coin_141 0 rfl ?_
                  refine z_getR C dX10_coin_142 fX10_13 rfl (kd_57 hS) (r_57_14 hS) ?_
                  refine z_bipush C dX10_coin_145 (by decide) ?_
                  refine z_dup2 C dX10_coin_147 rfl rfl ?_
                  refine z_iald (q := 108) C dX10_coin_148 (ka_59 hS) rfl (by decide) ?_
                  refine z_eqi (gi I 59 108) (by (repeat rw [gi_wi_nk _ _ _ (by omega)]); rw [gi_fl_o (by omega)]; exact s108) ?_
                  refine z_iconst C dX10_coin_149 ?_
                  refine z_iadd C dX10_coin_150 ?_
                  refine z_iast (q := 108) C dX10_coin_151 (ka_59 hS) rfl (by decide) ?_
                  refine z_aload_n C dX10_coin_152 0 rfl ?_
                  refine z_getR C dX10_coin_153 fX10_13 rfl (kd_57 hS) (r_57_14 hS) ?_
                  refine z_bipush C dX10_coin_156 (by decide) ?_
                  refine z_dup2 C dX10_coin_158 rfl rfl ?_
                  refine z_iald (q := 114) C dX10_coin_159 (ka_59 hS) rfl (by decide) ?_
                  refine z_eqi (gi (wi (wi (fl I21 59 b 0 32) 59 ((b + 0).toNat) g) 59 ((b + 1).toNat) w) 59 114) (gi_wi_nk _ _ _ (by decide)) ?_
                  refine z_eqi (gi I 59 114) (by (repeat rw [gi_wi_nk _ _ _ (by omega)]); rw [gi_fl_o (by omega)]; exact s114) ?_
                  refine z_iload_n C dX10_coin_160 2 rfl ?_
                  refine z_iadd C dX10_coin_161 ?_
                  refine z_iast (q := 114) C dX10_coin_162 (ka_59 hS) rfl (by decide) ?_
                  have m3 : gi (wi (wi (wi (wi (fl I21 59 b 0 32) 59 ((b + 0).toNat) g) 59 ((b + 1).toNat) w) 59 108 ((gi I 59 108) + 1)) 59 114 ((gi I 59 114) + g)) 59 (120 + 32 * (gi I 59 108) + 3).toNat = 0 := by (repeat rw [gi_wi_nk _ _ _ (by omega)]); exact gi_fl_e (by decide) (by omega)
                  have m112 : gi (wi (wi (wi (wi (fl I21 59 b 0 32) 59 ((b + 0).toNat) g) 59 ((b + 1).toNat) w) 59 108 ((gi I 59 108) + 1)) 59 114 ((gi I 59 114) + g)) 59 112 = gi I 59 112 := by (repeat rw [gi_wi_nk _ _ _ (by omega)]); rw [gi_fl_o (by omega)]; exact s112
                  have mbl : gi (wi (wi (wi (wi (fl I21 59 b 0 32) 59 ((b + 0).toNat) g) 59 ((b + 1).toNat) w) 59 108 ((gi I 59 108) + 1)) 59 114 ((gi I 59 114) + g)) 59 (32 + 3 * t + 1).toNat = gi I21 59 (32 + 3 * t + 1).toNat := by (repeat rw [gi_wi_nk _ _ _ (by omega)]); rw [gi_fl_o (by omega)]
                  refine z_aload_n C dX10_coin_163 0 rfl ?_
                  refine z_iload C dX10_coin_164 4 rfl ?_
                  refine z_iload_n C dX10_coin_166 1 rfl ?_
                  refine z_iload_n C dX10_coin_167 3 rfl ?_
                  refine z_iconst C dX10_coin_168 ?_
                  refine z_iconst C dX10_coin_169 ?_
                  refine z_cVv (r := 0) (st := []) C dX10_coin_170 mX10_275 (kd_57 hS) (qX10_strike hC (gi I 59 108) w t (-1) 0 0 hS (by omega) (by omega) (by rw [m3]; decide) (by rw [m3]; decide) (by rw [m112]; omega) (by rw [mbl]; exact hbl0) (fun i i0 i1 => by rw [m3] at i1; omega) (fun i i0 i1 => by omega) (fun i i0 i1 => by rw [m3] at i1; omega)) rfl rfl (Nat.le_of_ble_eq_true rfl) (by decide) ?_
                  refine z_iload C dX10_coin_173 4 rfl ?_
                  have hf28 : fX10_coin w g t (I, J) = (gi I 59 108, (skM (gi I 59 108) w t (-1) 0 0 (wi (wi (wi (wi (fl I21 59 b 0 32) 59 ((b + 0).toNat) g) 59 ((b + 1).toNat) w) 59 108 ((gi I 59 108) + 1)) 59 114 ((gi I 59 114) + g))), J22) := (by simp only [fX10_coin, hT4, if_pos h7, if_neg h9, if_pos h11, if_pos h13, if_neg h15, if_neg h17, if_pos h19, hT23, ← hb])
                  exact z_ireturnx C dX10_coin_175 (by rw [hf28]) (by rw [hf28])
                have hL25 : ∀ (N24 : Nat) (k : Int), (0 ≤ k ∧ k ≤ 32) → (32 - k).toNat < N24 → Jz G σ p l e R s m args below meth c 7 0 0 (Qx (some (.int (iv ((fX10_coin w g t (I, J)).1)))) (sh, (fX10_coin w g t (I, J)).2.1, (fX10_coin w g t (I, J)).2.2)) (sh, (fl I21 59 b 0 k), J22) 0 0 97 [(0, .ref (G.2.2 + 57)), (1, .int (iv (w))), (2, .int (iv (g))), (3, .int (iv (t))), (4, .int (iv (gi I 59 108))), (5, .int (iv (b))), (6, .int (iv (k)))] [] := by
                  intro N24
                  induction N24 with
                  | zero => intro k hk hm; exact absurd hm (Nat.not_lt_zero _)
                  | succ N24 ih26 =>
                    intro k hk hm
                    refine z_iload C dX10_coin_97 6 rfl ?_
                    refine z_bipush C dX10_coin_99 (by decide) ?_
                    refine z_icmp_ge 121 C dX10_coin_101 (by decide) (by omega) (by decide) (fun h29 => ?_) (fun h29 => ?_)
                    ·
                      have hcl : k = 32 := by omega
                      refine z_eqM (sh, (fl I21 59 b 0 32), J22) (memEq (by rw [show k = 32 by omega]) rfl) ?_
                      refine z_drop (lv' := [(0, .ref (G.2.2 + 57)), (1, .int (iv (w))), (2, .int (iv (g))), (3, .int (iv (t))), (4, .int (iv (gi I 59 108))), (5, .int (iv (b)))]) [0, 1, 2, 3, 4, 5] rfl ?_
                      exact hE27
                    ·
                      refine z_aload_n C dX10_coin_104 0 rfl ?_
                      refine z_getR C dX10_coin_105 fX10_13 rfl (kd_57 hS) (r_57_14 hS) ?_
                      refine z_iload C dX10_coin_108 5 rfl ?_
                      refine z_iload C dX10_coin_110 6 rfl ?_
                      refine z_iadd C dX10_coin_112 ?_
                      refine z_iconst C dX10_coin_113 ?_
                      refine z_iast (q := (b + k).toNat) C dX10_coin_114 (ka_59 hS) (by omega) (by omega) ?_
                      refine z_iinc (lv' := [(0, .ref (G.2.2 + 57)), (1, .int (iv (w))), (2, .int (iv (g))), (3, .int (iv (t))), (4, .int (iv (gi I 59 108))), (5, .int (iv (b))), (6, .int (iv (k + 1)))]) C dX10_coin_115 6 rfl (by decide) [1, 2, 3, 4, 5, 6, 0] rfl ?_
                      refine z_goto 97 C dX10_coin_118 (by decide) ?_
                      refine z_eqM (sh, (fl I21 59 b 0 (k + 1)), J22) (memEq (fl_s (by omega) (by omega) (by omega)) rfl) ?_
                      exact ih26 (k + 1) (by omega) (by omega)
                refine z_eqM (sh, (fl I21 59 b 0 0), J22) (memEq (fl_i _ _ _ _ 0 (by omega)).symm rfl) ?_
                exact hL25 _ (0) (by omega) (Nat.lt_succ_self _)
              ·
                refine z_iconst C dX10_coin_72 ?_
                have hf30 : fX10_coin w g t (I, J) = (-1, I2, J3) := (by simp only [fX10_coin, hT4, if_pos h7, if_neg h9, if_pos h11, if_pos h13, if_neg h15, if_neg h17, if_neg h19])
                exact z_ireturnx C dX10_coin_73 (by rw [hf30]) (by rw [hf30])

noncomputable def fX10_forge (q : Int) (t : Int) (S : Mi × Mj) : Int × Mi × Mj :=
  match S with
  | (I, J) =>
    match fX10_lay ((wi I 57 0 0), J) with
    | (r1, I2, J3) =>
      if 0 ≤ q ∧ q < gi I 59 108 then
        if 0 ≤ t ∧ t < gi I 59 1 then
          if 500 < gi I 59 112 + 1 then
            (-1, I2, J3)
          else
            if (gi I2 59 110) = (-1) then
              (1, I2, J3)
            else
              if (gi I2 59 (120 + 32 * q + 1).toNat) = (gi I2 59 111) then
                match gX10_wrongAt q t (I2 59) with
                | x14 =>
                  if x14 = 0 then
                    match fX10_snap (I2, J3) with
                    | (r16, I17, J18) =>
                      (0, (skM q (gi I2 59 110) t (-1) 1 (lf (I17 59) q t) I17), J18)
                  else
                    (x14, I2, J3)
              else
                (2, I2, J3)
        else
          (-1, I2, J3)
      else
        (-1, I2, J3)
theorem frX10_forge {q : Int} {t : Int} {S : Mi × Mj} {r0 : Int} {I0 : Mi} {J0 : Mj} (h : fX10_forge q t S = (r0, I0, J0)) (aq kq : Nat) (haq : aq ≠ 59 ∧ aq ≠ 62 ∧ ¬ (aq = 57 ∧ kq = 0) ∧ ¬ (aq = 57 ∧ kq = 22) ∧ ¬ (aq = 57 ∧ kq = 23)) : I0 aq kq = S.1 aq kq := by
  obtain ⟨I, J⟩ := S
  unfold fX10_forge at h
  try simp only at h
  obtain ⟨⟨r1, I2, J3⟩, hq1⟩ : ∃ q, q = fX10_lay ((wi I 57 0 0), J) := ⟨_, rfl⟩
  rw [← hq1] at h; try simp only at h
  by_cases hq2 : 0 ≤ q ∧ q < gi I 59 108
  · simp only [if_pos hq2] at h
    by_cases hq3 : 0 ≤ t ∧ t < gi I 59 1
    · simp only [if_pos hq3] at h
      by_cases hq4 : 500 < gi I 59 112 + 1
      · simp only [if_pos hq4] at h
        simp only [Prod.mk.injEq] at h
        obtain ⟨-, hI, hJ⟩ := h
        exact (congrFun (congrFun hI aq) kq).symm.trans (Eq.trans (frX10_lay hq1.symm aq kq ⟨haq.2.2.2.1, (fun q => haq.1 q.1), (fun q => haq.1 q.1), (fun q => haq.1 q.1), (fun q => haq.1 q.1), (fun q => haq.1 q.1)⟩) (Eq.trans (wi_nc _ _ haq.2.2.1) rfl))
      · simp only [if_neg hq4] at h
        by_cases hq5 : (gi I2 59 110) = (-1)
        · simp only [if_pos hq5] at h
          simp only [Prod.mk.injEq] at h
          obtain ⟨-, hI, hJ⟩ := h
          exact (congrFun (congrFun hI aq) kq).symm.trans (Eq.trans (frX10_lay hq1.symm aq kq ⟨haq.2.2.2.1, (fun q => haq.1 q.1), (fun q => haq.1 q.1), (fun q => haq.1 q.1), (fun q => haq.1 q.1), (fun q => haq.1 q.1)⟩) (Eq.trans (wi_nc _ _ haq.2.2.1) rfl))
        · simp only [if_neg hq5] at h
          by_cases hq6 : (gi I2 59 (120 + 32 * q + 1).toNat) = (gi I2 59 111)
          · simp only [if_pos hq6] at h
            obtain ⟨x14, hq7⟩ : ∃ zz, zz = gX10_wrongAt q t (I2 59) := ⟨_, rfl⟩
            try rw [← hq7] at h
            try simp only at h
            by_cases hq8 : x14 = 0
            · simp only [if_pos hq8] at h
              obtain ⟨⟨r16, I17, J18⟩, hq9⟩ : ∃ q, q = fX10_snap (I2, J3) := ⟨_, rfl⟩
              rw [← hq9] at h; try simp only at h
              simp only [Prod.mk.injEq] at h
              obtain ⟨-, hI, hJ⟩ := h
              exact (congrFun (congrFun hI aq) kq).symm.trans (Eq.trans ((skM_fr q (gi I2 59 110) t (-1) 1 (lf (I17 59) q t) I17) aq kq haq.1) (Eq.trans (frX10_snap hq9.symm aq kq ⟨haq.2.1, haq.2.2.2.2⟩) (Eq.trans (frX10_lay hq1.symm aq kq ⟨haq.2.2.2.1, (fun q => haq.1 q.1), (fun q => haq.1 q.1), (fun q => haq.1 q.1), (fun q => haq.1 q.1), (fun q => haq.1 q.1)⟩) (Eq.trans (wi_nc _ _ haq.2.2.1) rfl))))
            · simp only [if_neg hq8] at h
              simp only [Prod.mk.injEq] at h
              obtain ⟨-, hI, hJ⟩ := h
              exact (congrFun (congrFun hI aq) kq).symm.trans (Eq.trans (frX10_lay hq1.symm aq kq ⟨haq.2.2.2.1, (fun q => haq.1 q.1), (fun q => haq.1 q.1), (fun q => haq.1 q.1), (fun q => haq.1 q.1), (fun q => haq.1 q.1)⟩) (Eq.trans (wi_nc _ _ haq.2.2.1) rfl))
          · simp only [if_neg hq6] at h
            simp only [Prod.mk.injEq] at h
            obtain ⟨-, hI, hJ⟩ := h
            exact (congrFun (congrFun hI aq) kq).symm.trans (Eq.trans (frX10_lay hq1.symm aq kq ⟨haq.2.2.2.1, (fun q => haq.1 q.1), (fun q => haq.1 q.1), (fun q => haq.1 q.1), (fun q => haq.1 q.1), (fun q => haq.1 q.1)⟩) (Eq.trans (wi_nc _ _ haq.2.2.1) rfl))
    · simp only [if_neg hq3] at h
      simp only [Prod.mk.injEq] at h
      obtain ⟨-, hI, hJ⟩ := h
      exact (congrFun (congrFun hI aq) kq).symm.trans (Eq.trans (frX10_lay hq1.symm aq kq ⟨haq.2.2.2.1, (fun q => haq.1 q.1), (fun q => haq.1 q.1), (fun q => haq.1 q.1), (fun q => haq.1 q.1), (fun q => haq.1 q.1)⟩) (Eq.trans (wi_nc _ _ haq.2.2.1) rfl))
  · simp only [if_neg hq2] at h
    simp only [Prod.mk.injEq] at h
    obtain ⟨-, hI, hJ⟩ := h
    exact (congrFun (congrFun hI aq) kq).symm.trans (Eq.trans (frX10_lay hq1.symm aq kq ⟨haq.2.2.2.1, (fun q => haq.1 q.1), (fun q => haq.1 q.1), (fun q => haq.1 q.1), (fun q => haq.1 q.1), (fun q => haq.1 q.1)⟩) (Eq.trans (wi_nc _ _ haq.2.2.1) rfl))
theorem fjX10_forge {q : Int} {t : Int} {S : Mi × Mj} {r0 : Int} {I0 : Mi} {J0 : Mj} (h : fX10_forge q t S = (r0, I0, J0)) (aq kq : Nat) (haq : True) : J0 aq kq = S.2 aq kq := by
  obtain ⟨I, J⟩ := S
  unfold fX10_forge at h
  try simp only at h
  obtain ⟨⟨r1, I2, J3⟩, hq1⟩ : ∃ q, q = fX10_lay ((wi I 57 0 0), J) := ⟨_, rfl⟩
  rw [← hq1] at h; try simp only at h
  by_cases hq2 : 0 ≤ q ∧ q < gi I 59 108
  · simp only [if_pos hq2] at h
    by_cases hq3 : 0 ≤ t ∧ t < gi I 59 1
    · simp only [if_pos hq3] at h
      by_cases hq4 : 500 < gi I 59 112 + 1
      · simp only [if_pos hq4] at h
        simp only [Prod.mk.injEq] at h
        obtain ⟨-, hI, hJ⟩ := h
        exact (congrFun (congrFun hJ aq) kq).symm.trans (Eq.trans (fjX10_lay hq1.symm aq kq trivial) rfl)
      · simp only [if_neg hq4] at h
        by_cases hq5 : (gi I2 59 110) = (-1)
        · simp only [if_pos hq5] at h
          simp only [Prod.mk.injEq] at h
          obtain ⟨-, hI, hJ⟩ := h
          exact (congrFun (congrFun hJ aq) kq).symm.trans (Eq.trans (fjX10_lay hq1.symm aq kq trivial) rfl)
        · simp only [if_neg hq5] at h
          by_cases hq6 : (gi I2 59 (120 + 32 * q + 1).toNat) = (gi I2 59 111)
          · simp only [if_pos hq6] at h
            obtain ⟨x14, hq7⟩ : ∃ zz, zz = gX10_wrongAt q t (I2 59) := ⟨_, rfl⟩
            try rw [← hq7] at h
            try simp only at h
            by_cases hq8 : x14 = 0
            · simp only [if_pos hq8] at h
              obtain ⟨⟨r16, I17, J18⟩, hq9⟩ : ∃ q, q = fX10_snap (I2, J3) := ⟨_, rfl⟩
              rw [← hq9] at h; try simp only at h
              simp only [Prod.mk.injEq] at h
              obtain ⟨-, hI, hJ⟩ := h
              exact (congrFun (congrFun hJ aq) kq).symm.trans (Eq.trans (fjX10_snap hq9.symm aq kq trivial) (Eq.trans (fjX10_lay hq1.symm aq kq trivial) rfl))
            · simp only [if_neg hq8] at h
              simp only [Prod.mk.injEq] at h
              obtain ⟨-, hI, hJ⟩ := h
              exact (congrFun (congrFun hJ aq) kq).symm.trans (Eq.trans (fjX10_lay hq1.symm aq kq trivial) rfl)
          · simp only [if_neg hq6] at h
            simp only [Prod.mk.injEq] at h
            obtain ⟨-, hI, hJ⟩ := h
            exact (congrFun (congrFun hJ aq) kq).symm.trans (Eq.trans (fjX10_lay hq1.symm aq kq trivial) rfl)
    · simp only [if_neg hq3] at h
      simp only [Prod.mk.injEq] at h
      obtain ⟨-, hI, hJ⟩ := h
      exact (congrFun (congrFun hJ aq) kq).symm.trans (Eq.trans (fjX10_lay hq1.symm aq kq trivial) rfl)
  · simp only [if_neg hq2] at h
    simp only [Prod.mk.injEq] at h
    obtain ⟨-, hI, hJ⟩ := h
    exact (congrFun (congrFun hJ aq) kq).symm.trans (Eq.trans (fjX10_lay hq1.symm aq kq trivial) rfl)
set_option maxHeartbeats 4000000 in
set_option maxRecDepth 100000 in
theorem qX10_forge {G : Gx} {σ : State} (hC : Cz G σ) {sh : Sh} {I : Mi} {J : Mj} (q t : Int) (hS : St sh) (hn : NX (I 59)) (hy : NY (I 59)) (hsn : 0 ≤ gi I 57 23 ∧ gi I 57 23 ≤ 6) (rq : -2147483648 ≤ q ∧ q < 2147483648) (rt : -2147483648 ≤ t ∧ t < 2147483648) : Ce G σ 4 yX10_forge cX10_forge 4 (some .int) [.ref (G.2.2 + 57), .int (iv (q)), .int (iv (t))] (sh, I, J) 0 0 (some (.int (iv ((fX10_forge q t (I, J)).1)))) (sh, (fX10_forge q t (I, J)).2.1, (fX10_forge q t (I, J)).2.2) := by
  refine Ct.of hC (by decide +kernel) (Nat.le_of_ble_eq_true rfl) ?_
  intro p l e R s m args below meth c C
  show Jz G σ p l e R s m args below meth c 4 0 0 (Qx (some (.int (iv ((fX10_forge q t (I, J)).1)))) (sh, (fX10_forge q t (I, J)).2.1, (fX10_forge q t (I, J)).2.2)) (sh, I, J) 0 0 0 [(0, .ref (G.2.2 + 57)), (1, .int (iv (q))), (2, .int (iv (t)))] []
  refine z_aload_n C dX10_forge_0 0 rfl ?_
  refine z_iconst C dX10_forge_1 ?_
  refine z_putI C dX10_forge_2 fX10_83 rfl rfl (kd_57 hS) rfl rfl ?_
  refine z_aload_n C dX10_forge_5 0 rfl ?_
  refine z_cVvF (st := []) (F := fX10_lay ((wi I 57 0 0), J)) C dX10_forge_6 mX10_167 (kd_57 hS) (qX10_lay hC  hS) rfl rfl (Nat.le_of_ble_eq_true rfl) (by decide) (fun r1 I2 J3 hT4 => ?_)
  have hn5 : NX (I2 59) := nxX10_lay hT4 hn
  have hy6 : NY (I2 59) := nyX10_lay hT4 hy
  have e108 := (show gi I2 59 108 = gi I 59 108 from (Eq.trans (gi_fk (frX10_lay hT4 59 108 (by decide))) (gi_wi_na _ _ _ _ (by decide))))
  have e0 := (show gi I2 59 0 = gi I 59 0 from (Eq.trans (gi_fk (frX10_lay hT4 59 0 (by decide))) (gi_wi_na _ _ _ _ (by decide))))
  have e1 := (show gi I2 59 1 = gi I 59 1 from (Eq.trans (gi_fk (frX10_lay hT4 59 1 (by decide))) (gi_wi_na _ _ _ _ (by decide))))
  have e112 := (show gi I2 59 112 = gi I 59 112 from (Eq.trans (gi_fk (frX10_lay hT4 59 112 (by decide))) (gi_wi_na _ _ _ _ (by decide))))
  have e113 := (show gi I2 59 113 = gi I 59 113 from (Eq.trans (gi_fk (frX10_lay hT4 59 113 (by decide))) (gi_wi_na _ _ _ _ (by decide))))
  have b108 := nx_c hn5
  have b0 := nx_p hn5
  have b1 := nx_m hn5
  have b112 := nx_s hn5
  have b113 := nx_sl hn5
  have b6 := nx_st hn5
  refine z_aload_n C dX10_forge_9 0 rfl ?_
  refine z_iload_n C dX10_forge_10 1 rfl ?_
  refine z_cVi (st := []) C dX10_forge_11 mX10_282 (kd_57 hS) (qX10_isCoin hC q hS rq) rfl rfl (Nat.le_of_ble_eq_true rfl) (by decide) ?_
  refine z_eqi (b2 (0 ≤ q ∧ q < gi I 59 108)) (b2_iff (by rw [show gi I2 59 108 = gi I 59 108 from (Eq.trans (gi_fk (frX10_lay hT4 59 108 (by decide))) (gi_wi_na _ _ _ _ (by decide)))])) ?_
  refine z_if_eq_b 33 C dX10_forge_14 (by decide) (fun h7 => ?_) (fun h7 => ?_)
  ·
    refine z_iconst C dX10_forge_33 ?_
    have hf8 : fX10_forge q t (I, J) = (-1, I2, J3) := (by simp only [fX10_forge, hT4, if_neg h7])
    exact z_ireturnx C dX10_forge_34 (by rw [hf8]) (by rw [hf8])
  ·
    refine z_aload_n C dX10_forge_17 0 rfl ?_
    refine z_iload_n C dX10_forge_18 2 rfl ?_
    refine z_cVi (st := []) C dX10_forge_19 mX10_259 (kd_57 hS) (qX10_isMint hC t hS rt) rfl rfl (Nat.le_of_ble_eq_true rfl) (by decide) ?_
    refine z_eqi (b2 (0 ≤ t ∧ t < gi I 59 1)) (b2_iff (by rw [show gi I2 59 1 = gi I 59 1 from (Eq.trans (gi_fk (frX10_lay hT4 59 1 (by decide))) (gi_wi_na _ _ _ _ (by decide)))])) ?_
    refine z_if_eq_b 33 C dX10_forge_22 (by decide) (fun h9 => ?_) (fun h9 => ?_)
    ·
      refine z_iconst C dX10_forge_33 ?_
      have hf10 : fX10_forge q t (I, J) = (-1, I2, J3) := (by simp only [fX10_forge, hT4, if_pos h7, if_neg h9])
      exact z_ireturnx C dX10_forge_34 (by rw [hf10]) (by rw [hf10])
    ·
      refine z_aload_n C dX10_forge_25 0 rfl ?_
      refine z_iconst C dX10_forge_26 ?_
      refine z_cVi (st := []) C dX10_forge_27 mX10_269 (kd_57 hS) (qX10_isFull hC 1 hS (by omega) (by have : gi I2 59 112 = gi I 59 112 := (Eq.trans (gi_fk (frX10_lay hT4 59 112 (by decide))) (gi_wi_na _ _ _ _ (by decide))); have := gi_rng I 59 112; have := gi_rng I2 59 112; omega)) rfl rfl (Nat.le_of_ble_eq_true rfl) (by decide) ?_
      refine z_eqi (b2 (500 < gi I 59 112 + 1)) (b2_iff (by rw [show gi I2 59 112 = gi I 59 112 from (Eq.trans (gi_fk (frX10_lay hT4 59 112 (by decide))) (gi_wi_na _ _ _ _ (by decide)))])) ?_
      refine z_if_eq_b 35 C dX10_forge_30 (by decide) (fun h11 => ?_) (fun h11 => ?_)
      ·
        refine z_aload_n C dX10_forge_35 0 rfl ?_
        refine z_getR C dX10_forge_36 fX10_13 rfl (kd_57 hS) (r_57_14 hS) ?_
        refine z_bipush C dX10_forge_39 (by decide) ?_
        refine z_iald (q := 110) C dX10_forge_41 (ka_59 hS) rfl (by decide) ?_
        refine z_iconst C dX10_forge_42 ?_
        refine z_icmp_ne 48 C dX10_forge_43 (by decide) (gi_rng _ _ _) (by decide) (fun h12 => ?_) (fun h12 => ?_)
        ·
          have hgr := ny_g hy6 (q := q) (by omega) (by omega)
          refine z_aload_n C dX10_forge_48 0 rfl ?_
          refine z_iload_n C dX10_forge_49 1 rfl ?_
          refine z_iconst C dX10_forge_50 ?_
          refine z_cVi (st := []) C dX10_forge_51 mX10_256 (kd_57 hS) (qX10_ofCoin hC q 1 hS (by omega) (by omega)) rfl rfl (Nat.le_of_ble_eq_true rfl) (by decide) ?_
          refine z_aload_n C dX10_forge_54 0 rfl ?_
          refine z_getR C dX10_forge_55 fX10_13 rfl (kd_57 hS) (r_57_14 hS) ?_
          refine z_bipush C dX10_forge_58 (by decide) ?_
          refine z_iald (q := 111) C dX10_forge_60 (ka_59 hS) rfl (by decide) ?_
          refine z_icmp_eq 66 C dX10_forge_61 (by decide) (gi_rng _ _ _) (gi_rng _ _ _) (fun h13 => ?_) (fun h13 => ?_)
          ·
            refine z_aload_n C dX10_forge_66 0 rfl ?_
            refine z_iload_n C dX10_forge_67 1 rfl ?_
            refine z_iload_n C dX10_forge_68 2 rfl ?_
            refine z_cVi (st := []) C dX10_forge_69 mX10_300 (kd_57 hS) (qX10_wrongAt hC q t hS hn5 (by have : gi I2 59 108 = gi I 59 108 := (Eq.trans (gi_fk (frX10_lay hT4 59 108 (by decide))) (gi_wi_na _ _ _ _ (by decide))); have := gi_rng I 59 108; have := gi_rng I2 59 108; omega) (by omega) (by have := gi_rng I2 59 ((120 + 32 * q + 0).toNat); have := gi_rng I2 59 (120 + 32 * q + 0).toNat; omega)) rfl rfl (Nat.le_of_ble_eq_true rfl) (by decide) ?_
            refine z_nami (fun x14 hx14 => ?_)
            refine z_istore_n (lv' := [(0, .ref (G.2.2 + 57)), (1, .int (iv (q))), (2, .int (iv (t))), (3, .int (iv (x14)))]) C dX10_forge_72 rfl (by decide) [1, 2, 3, 0] rfl ?_
            have hr14 := gX10_wrongAt_rng q t (I2 59)
            refine z_iload_n C dX10_forge_73 3 rfl ?_
            refine z_if_eq 79 C dX10_forge_74 (by decide) (by omega) (fun h15 => ?_) (fun h15 => ?_)
            ·
              refine z_aload_n C dX10_forge_79 0 rfl ?_
              refine z_cVvF (st := []) (F := fX10_snap (I2, J3)) C dX10_forge_80 mX10_272 (kd_57 hS) (qX10_snap hC  hS (by have : gi I2 57 23 = gi I 57 23 := (Eq.trans (gi_fk (frX10_lay hT4 57 23 (by decide))) (gi_wi_nk _ _ _ (by decide))); have := gi_rng I 57 23; have := gi_rng I2 57 23; omega)) rfl rfl (Nat.le_of_ble_eq_true rfl) (by decide) (fun r16 I17 J18 hT19 => ?_)
              refine z_aload_n C dX10_forge_83 0 rfl ?_
              refine z_iload_n C dX10_forge_84 1 rfl ?_
              refine z_aload_n C dX10_forge_85 0 rfl ?_
              refine z_getR C dX10_forge_86 fX10_13 rfl (kd_57 hS) (r_57_14 hS) ?_
              refine z_bipush C dX10_forge_89 (by decide) ?_
              refine z_iald (q := 110) C dX10_forge_91 (ka_59 hS) rfl (by decide) ?_
              refine z_eqi (gi I2 59 110) (gi_fk (frX10_snap hT19 59 110 (by decide))) ?_
              refine z_iload_n C dX10_forge_92 2 rfl ?_
              refine z_iconst C dX10_forge_93 ?_
              refine z_iconst C dX10_forge_94 ?_
              refine z_cVv (r := 0) (st := []) C dX10_forge_95 mX10_275 (kd_57 hS) (qX10_strikeN hC q (gi I2 59 110) t (-1) 1 hS (h59 (P := NX) (funext (fun q => frX10_snap hT19 59 q (by simp))) hn5) (h59 (P := NY) (funext (fun q => frX10_snap hT19 59 q (by simp))) hy6) (by have : gi I17 59 108 = gi I 59 108 := (Eq.trans (gi_fk (frX10_snap hT19 59 108 (by decide))) (Eq.trans (gi_fk (frX10_lay hT4 59 108 (by decide))) (gi_wi_na _ _ _ _ (by decide)))); have := gi_rng I 59 108; have := gi_rng I17 59 108; omega) (by have : gi I17 59 1 = gi I 59 1 := (Eq.trans (gi_fk (frX10_snap hT19 59 1 (by decide))) (Eq.trans (gi_fk (frX10_lay hT4 59 1 (by decide))) (gi_wi_na _ _ _ _ (by decide)))); have := gi_rng I 59 1; have := gi_rng I17 59 1; omega) (by have : gi I17 59 112 = gi I 59 112 := (Eq.trans (gi_fk (frX10_snap hT19 59 112 (by decide))) (Eq.trans (gi_fk (frX10_lay hT4 59 112 (by decide))) (gi_wi_na _ _ _ _ (by decide)))); have := gi_rng I 59 112; have := gi_rng I17 59 112; omega)) rfl rfl (Nat.le_of_ble_eq_true rfl) (by decide) ?_
              refine z_iconst C dX10_forge_98 ?_
              have hf20 : fX10_forge q t (I, J) = (0, (skM q (gi I2 59 110) t (-1) 1 (lf (I17 59) q t) I17), J18) := (by simp only [fX10_forge, hT4, if_pos h7, if_pos h9, if_neg h11, if_neg h12, if_pos h13, ← hx14, if_pos h15, hT19])
              exact z_ireturnx C dX10_forge_99 (by rw [hf20]) (by rw [hf20])
            ·
              refine z_iload_n C dX10_forge_77 3 rfl ?_
              have hf21 : fX10_forge q t (I, J) = (x14, I2, J3) := (by simp only [fX10_forge, hT4, if_pos h7, if_pos h9, if_neg h11, if_neg h12, if_pos h13, ← hx14, if_neg h15])
              exact z_ireturnx C dX10_forge_78 (by rw [hf21]) (by rw [hf21])
          ·
            refine z_iconst C dX10_forge_64 ?_
            have hf22 : fX10_forge q t (I, J) = (2, I2, J3) := (by simp only [fX10_forge, hT4, if_pos h7, if_pos h9, if_neg h11, if_neg h12, if_neg h13])
            exact z_ireturnx C dX10_forge_65 (by rw [hf22]) (by rw [hf22])
        ·
          refine z_iconst C dX10_forge_46 ?_
          have hf23 : fX10_forge q t (I, J) = (1, I2, J3) := (by simp only [fX10_forge, hT4, if_pos h7, if_pos h9, if_neg h11, if_pos h12])
          exact z_ireturnx C dX10_forge_47 (by rw [hf23]) (by rw [hf23])
      ·
        refine z_iconst C dX10_forge_33 ?_
        have hf24 : fX10_forge q t (I, J) = (-1, I2, J3) := (by simp only [fX10_forge, hT4, if_pos h7, if_pos h9, if_pos h11])
        exact z_ireturnx C dX10_forge_34 (by rw [hf24]) (by rw [hf24])

noncomputable def fX10_steal (w : Int) (t : Int) (S : Mi × Mj) : Bool × Mi × Mj :=
  match S with
  | (I, J) =>
    match fX10_lay ((wi I 57 0 0), J) with
    | (r1, I2, J3) =>
      if 0 ≤ w ∧ w < gi I 59 0 then
        if 0 ≤ t ∧ t < gi I 59 0 then
          if gX10_areUnfit w t (I2 59) = true then
            (false, I2, J3)
          else
            if (gi I2 59 110) = (-1) then
              match fX10_snap (I2, J3) with
              | (r13, I14, J15) =>
                (true, (wi (wi I14 59 110 t) 59 111 w), J15)
            else
              (false, I2, J3)
        else
          (false, I2, J3)
      else
        (false, I2, J3)
theorem frX10_steal {w : Int} {t : Int} {S : Mi × Mj} {r0 : Bool} {I0 : Mi} {J0 : Mj} (h : fX10_steal w t S = (r0, I0, J0)) (aq kq : Nat) (haq : aq ≠ 62 ∧ ¬ (aq = 57 ∧ kq = 0) ∧ ¬ (aq = 57 ∧ kq = 22) ∧ ¬ (aq = 57 ∧ kq = 23) ∧ ¬ (aq = 59 ∧ kq = 110) ∧ ¬ (aq = 59 ∧ kq = 111) ∧ ¬ (aq = 59 ∧ kq = 4) ∧ ¬ (aq = 59 ∧ kq = 5) ∧ ¬ (aq = 59 ∧ kq = 6)) : I0 aq kq = S.1 aq kq := by
  obtain ⟨I, J⟩ := S
  unfold fX10_steal at h
  try simp only at h
  obtain ⟨⟨r1, I2, J3⟩, hq1⟩ : ∃ q, q = fX10_lay ((wi I 57 0 0), J) := ⟨_, rfl⟩
  rw [← hq1] at h; try simp only at h
  by_cases hq2 : 0 ≤ w ∧ w < gi I 59 0
  · simp only [if_pos hq2] at h
    by_cases hq3 : 0 ≤ t ∧ t < gi I 59 0
    · simp only [if_pos hq3] at h
      by_cases hq4 : gX10_areUnfit w t (I2 59) = true
      · simp only [if_pos hq4] at h
        simp only [Prod.mk.injEq] at h
        obtain ⟨-, hI, hJ⟩ := h
        exact (congrFun (congrFun hI aq) kq).symm.trans (Eq.trans (frX10_lay hq1.symm aq kq ⟨haq.2.2.1, haq.2.2.2.2.1, haq.2.2.2.2.2.1, haq.2.2.2.2.2.2.1, haq.2.2.2.2.2.2.2.1, haq.2.2.2.2.2.2.2.2⟩) (Eq.trans (wi_nc _ _ haq.2.1) rfl))
      · simp only [if_neg hq4] at h
        by_cases hq5 : (gi I2 59 110) = (-1)
        · simp only [if_pos hq5] at h
          obtain ⟨⟨r13, I14, J15⟩, hq6⟩ : ∃ q, q = fX10_snap (I2, J3) := ⟨_, rfl⟩
          rw [← hq6] at h; try simp only at h
          simp only [Prod.mk.injEq] at h
          obtain ⟨-, hI, hJ⟩ := h
          exact (congrFun (congrFun hI aq) kq).symm.trans (Eq.trans (wi_nc _ _ haq.2.2.2.2.2.1) (Eq.trans (wi_nc _ _ haq.2.2.2.2.1) (Eq.trans (frX10_snap hq6.symm aq kq ⟨haq.1, haq.2.2.2.1⟩) (Eq.trans (frX10_lay hq1.symm aq kq ⟨haq.2.2.1, haq.2.2.2.2.1, haq.2.2.2.2.2.1, haq.2.2.2.2.2.2.1, haq.2.2.2.2.2.2.2.1, haq.2.2.2.2.2.2.2.2⟩) (Eq.trans (wi_nc _ _ haq.2.1) rfl)))))
        · simp only [if_neg hq5] at h
          simp only [Prod.mk.injEq] at h
          obtain ⟨-, hI, hJ⟩ := h
          exact (congrFun (congrFun hI aq) kq).symm.trans (Eq.trans (frX10_lay hq1.symm aq kq ⟨haq.2.2.1, haq.2.2.2.2.1, haq.2.2.2.2.2.1, haq.2.2.2.2.2.2.1, haq.2.2.2.2.2.2.2.1, haq.2.2.2.2.2.2.2.2⟩) (Eq.trans (wi_nc _ _ haq.2.1) rfl))
    · simp only [if_neg hq3] at h
      simp only [Prod.mk.injEq] at h
      obtain ⟨-, hI, hJ⟩ := h
      exact (congrFun (congrFun hI aq) kq).symm.trans (Eq.trans (frX10_lay hq1.symm aq kq ⟨haq.2.2.1, haq.2.2.2.2.1, haq.2.2.2.2.2.1, haq.2.2.2.2.2.2.1, haq.2.2.2.2.2.2.2.1, haq.2.2.2.2.2.2.2.2⟩) (Eq.trans (wi_nc _ _ haq.2.1) rfl))
  · simp only [if_neg hq2] at h
    simp only [Prod.mk.injEq] at h
    obtain ⟨-, hI, hJ⟩ := h
    exact (congrFun (congrFun hI aq) kq).symm.trans (Eq.trans (frX10_lay hq1.symm aq kq ⟨haq.2.2.1, haq.2.2.2.2.1, haq.2.2.2.2.2.1, haq.2.2.2.2.2.2.1, haq.2.2.2.2.2.2.2.1, haq.2.2.2.2.2.2.2.2⟩) (Eq.trans (wi_nc _ _ haq.2.1) rfl))
theorem fjX10_steal {w : Int} {t : Int} {S : Mi × Mj} {r0 : Bool} {I0 : Mi} {J0 : Mj} (h : fX10_steal w t S = (r0, I0, J0)) (aq kq : Nat) (haq : True) : J0 aq kq = S.2 aq kq := by
  obtain ⟨I, J⟩ := S
  unfold fX10_steal at h
  try simp only at h
  obtain ⟨⟨r1, I2, J3⟩, hq1⟩ : ∃ q, q = fX10_lay ((wi I 57 0 0), J) := ⟨_, rfl⟩
  rw [← hq1] at h; try simp only at h
  by_cases hq2 : 0 ≤ w ∧ w < gi I 59 0
  · simp only [if_pos hq2] at h
    by_cases hq3 : 0 ≤ t ∧ t < gi I 59 0
    · simp only [if_pos hq3] at h
      by_cases hq4 : gX10_areUnfit w t (I2 59) = true
      · simp only [if_pos hq4] at h
        simp only [Prod.mk.injEq] at h
        obtain ⟨-, hI, hJ⟩ := h
        exact (congrFun (congrFun hJ aq) kq).symm.trans (Eq.trans (fjX10_lay hq1.symm aq kq trivial) rfl)
      · simp only [if_neg hq4] at h
        by_cases hq5 : (gi I2 59 110) = (-1)
        · simp only [if_pos hq5] at h
          obtain ⟨⟨r13, I14, J15⟩, hq6⟩ : ∃ q, q = fX10_snap (I2, J3) := ⟨_, rfl⟩
          rw [← hq6] at h; try simp only at h
          simp only [Prod.mk.injEq] at h
          obtain ⟨-, hI, hJ⟩ := h
          exact (congrFun (congrFun hJ aq) kq).symm.trans (Eq.trans (fjX10_snap hq6.symm aq kq trivial) (Eq.trans (fjX10_lay hq1.symm aq kq trivial) rfl))
        · simp only [if_neg hq5] at h
          simp only [Prod.mk.injEq] at h
          obtain ⟨-, hI, hJ⟩ := h
          exact (congrFun (congrFun hJ aq) kq).symm.trans (Eq.trans (fjX10_lay hq1.symm aq kq trivial) rfl)
    · simp only [if_neg hq3] at h
      simp only [Prod.mk.injEq] at h
      obtain ⟨-, hI, hJ⟩ := h
      exact (congrFun (congrFun hJ aq) kq).symm.trans (Eq.trans (fjX10_lay hq1.symm aq kq trivial) rfl)
  · simp only [if_neg hq2] at h
    simp only [Prod.mk.injEq] at h
    obtain ⟨-, hI, hJ⟩ := h
    exact (congrFun (congrFun hJ aq) kq).symm.trans (Eq.trans (fjX10_lay hq1.symm aq kq trivial) rfl)
set_option maxHeartbeats 4000000 in
set_option maxRecDepth 100000 in
theorem qX10_steal {G : Gx} {σ : State} (hC : Cz G σ) {sh : Sh} {I : Mi} {J : Mj} (w t : Int) (hS : St sh) (hn : NX (I 59)) (hsn : 0 ≤ gi I 57 23 ∧ gi I 57 23 ≤ 6) (rw : -2147483648 ≤ w ∧ w < 2147483648) (rt : -2147483648 ≤ t ∧ t < 2147483648) : Ce G σ 3 yX10_steal cX10_steal 3 (some .boolean) [.ref (G.2.2 + 57), .int (iv (w)), .int (iv (t))] (sh, I, J) 0 0 (some (.int (iv (b2 ((fX10_steal w t (I, J)).1 = true))))) (sh, (fX10_steal w t (I, J)).2.1, (fX10_steal w t (I, J)).2.2) := by
  refine Ct.of hC (by decide +kernel) (Nat.le_of_ble_eq_true rfl) ?_
  intro p l e R s m args below meth c C
  show Jz G σ p l e R s m args below meth c 3 0 0 (Qx (some (.int (iv (b2 ((fX10_steal w t (I, J)).1 = true))))) (sh, (fX10_steal w t (I, J)).2.1, (fX10_steal w t (I, J)).2.2)) (sh, I, J) 0 0 0 [(0, .ref (G.2.2 + 57)), (1, .int (iv (w))), (2, .int (iv (t)))] []
  refine z_aload_n C dX10_steal_0 0 rfl ?_
  refine z_iconst C dX10_steal_1 ?_
  refine z_putI C dX10_steal_2 fX10_83 rfl rfl (kd_57 hS) rfl rfl ?_
  refine z_aload_n C dX10_steal_5 0 rfl ?_
  refine z_cVvF (st := []) (F := fX10_lay ((wi I 57 0 0), J)) C dX10_steal_6 mX10_167 (kd_57 hS) (qX10_lay hC  hS) rfl rfl (Nat.le_of_ble_eq_true rfl) (by decide) (fun r1 I2 J3 hT4 => ?_)
  have hn5 : NX (I2 59) := nxX10_lay hT4 hn
  have e108 := (show gi I2 59 108 = gi I 59 108 from (Eq.trans (gi_fk (frX10_lay hT4 59 108 (by decide))) (gi_wi_na _ _ _ _ (by decide))))
  have e0 := (show gi I2 59 0 = gi I 59 0 from (Eq.trans (gi_fk (frX10_lay hT4 59 0 (by decide))) (gi_wi_na _ _ _ _ (by decide))))
  have e1 := (show gi I2 59 1 = gi I 59 1 from (Eq.trans (gi_fk (frX10_lay hT4 59 1 (by decide))) (gi_wi_na _ _ _ _ (by decide))))
  have e112 := (show gi I2 59 112 = gi I 59 112 from (Eq.trans (gi_fk (frX10_lay hT4 59 112 (by decide))) (gi_wi_na _ _ _ _ (by decide))))
  have e113 := (show gi I2 59 113 = gi I 59 113 from (Eq.trans (gi_fk (frX10_lay hT4 59 113 (by decide))) (gi_wi_na _ _ _ _ (by decide))))
  have b108 := nx_c hn5
  have b0 := nx_p hn5
  have b1 := nx_m hn5
  have b112 := nx_s hn5
  have b113 := nx_sl hn5
  have b6 := nx_st hn5
  refine z_aload_n C dX10_steal_9 0 rfl ?_
  refine z_iload_n C dX10_steal_10 1 rfl ?_
  refine z_cVi (st := []) C dX10_steal_11 mX10_243 (kd_57 hS) (qX10_isWho hC w hS rw) rfl rfl (Nat.le_of_ble_eq_true rfl) (by decide) ?_
  refine z_eqi (b2 (0 ≤ w ∧ w < gi I 59 0)) (b2_iff (by rw [show gi I2 59 0 = gi I 59 0 from (Eq.trans (gi_fk (frX10_lay hT4 59 0 (by decide))) (gi_wi_na _ _ _ _ (by decide)))])) ?_
  refine z_if_eq_b 45 C dX10_steal_14 (by decide) (fun h6 => ?_) (fun h6 => ?_)
  ·
    refine z_iconst C dX10_steal_45 ?_
    have hf7 : fX10_steal w t (I, J) = (false, I2, J3) := (by simp only [fX10_steal, hT4, if_neg h6])
    exact z_zreturnx C dX10_steal_46 rfl (by rw [hf7]; rfl) (by rw [hf7])
  ·
    refine z_aload_n C dX10_steal_17 0 rfl ?_
    refine z_iload_n C dX10_steal_18 2 rfl ?_
    refine z_cVi (st := []) C dX10_steal_19 mX10_243 (kd_57 hS) (qX10_isWho hC t hS rt) rfl rfl (Nat.le_of_ble_eq_true rfl) (by decide) ?_
    refine z_eqi (b2 (0 ≤ t ∧ t < gi I 59 0)) (b2_iff (by rw [show gi I2 59 0 = gi I 59 0 from (Eq.trans (gi_fk (frX10_lay hT4 59 0 (by decide))) (gi_wi_na _ _ _ _ (by decide)))])) ?_
    refine z_if_eq_b 45 C dX10_steal_22 (by decide) (fun h8 => ?_) (fun h8 => ?_)
    ·
      refine z_iconst C dX10_steal_45 ?_
      have hf9 : fX10_steal w t (I, J) = (false, I2, J3) := (by simp only [fX10_steal, hT4, if_pos h6, if_neg h8])
      exact z_zreturnx C dX10_steal_46 rfl (by rw [hf9]; rfl) (by rw [hf9])
    ·
      refine z_aload_n C dX10_steal_25 0 rfl ?_
      refine z_iload_n C dX10_steal_26 1 rfl ?_
      refine z_iload_n C dX10_steal_27 2 rfl ?_
      refine z_cVi (st := []) C dX10_steal_28 mX10_297 (kd_57 hS) (qX10_areUnfit hC w t hS (by omega) (by omega)) rfl rfl (Nat.le_of_ble_eq_true rfl) (by decide) ?_
      refine z_if_ne_b 45 C dX10_steal_31 (by decide) (fun h10 => ?_) (fun h10 => ?_)
      ·
        refine z_iconst C dX10_steal_45 ?_
        have hf11 : fX10_steal w t (I, J) = (false, I2, J3) := (by simp only [fX10_steal, hT4, if_pos h6, if_pos h8, if_pos h10])
        exact z_zreturnx C dX10_steal_46 rfl (by rw [hf11]; rfl) (by rw [hf11])
      ·
        refine z_aload_n C dX10_steal_34 0 rfl ?_
        refine z_getR C dX10_steal_35 fX10_13 rfl (kd_57 hS) (r_57_14 hS) ?_
        refine z_bipush C dX10_steal_38 (by decide) ?_
        refine z_iald (q := 110) C dX10_steal_40 (ka_59 hS) rfl (by decide) ?_
        refine z_iconst C dX10_steal_41 ?_
        refine z_icmp_eq 47 C dX10_steal_42 (by decide) (gi_rng _ _ _) (by decide) (fun h12 => ?_) (fun h12 => ?_)
        ·
          refine z_aload_n C dX10_steal_47 0 rfl ?_
          refine z_cVvF (st := []) (F := fX10_snap (I2, J3)) C dX10_steal_48 mX10_272 (kd_57 hS) (qX10_snap hC  hS (by have : gi I2 57 23 = gi I 57 23 := (Eq.trans (gi_fk (frX10_lay hT4 57 23 (by decide))) (gi_wi_nk _ _ _ (by decide))); have := gi_rng I 57 23; have := gi_rng I2 57 23; omega)) rfl rfl (Nat.le_of_ble_eq_true rfl) (by decide) (fun r13 I14 J15 hT16 => ?_)
          refine z_aload_n C dX10_steal_51 0 rfl ?_
          refine z_getR C dX10_steal_52 fX10_13 rfl (kd_57 hS) (r_57_14 hS) ?_
          refine z_bipush C dX10_steal_55 (by decide) ?_
          refine z_iload_n C dX10_steal_57 2 rfl ?_
          refine z_iast (q := 110) C dX10_steal_58 (ka_59 hS) rfl (by decide) ?_
          refine z_aload_n C dX10_steal_59 0 rfl ?_
          refine z_getR C dX10_steal_60 fX10_13 rfl (kd_57 hS) (r_57_14 hS) ?_
          refine z_bipush C dX10_steal_63 (by decide) ?_
          refine z_iload_n C dX10_steal_65 1 rfl ?_
          refine z_iast (q := 111) C dX10_steal_66 (ka_59 hS) rfl (by decide) ?_
          refine z_iconst C dX10_steal_67 ?_
          have hf17 : fX10_steal w t (I, J) = (true, (wi (wi I14 59 110 t) 59 111 w), J15) := (by simp only [fX10_steal, hT4, if_pos h6, if_pos h8, if_neg h10, if_pos h12, hT16])
          exact z_zreturnx C dX10_steal_68 rfl (by rw [hf17]; rfl) (by rw [hf17])
        ·
          refine z_iconst C dX10_steal_45 ?_
          have hf18 : fX10_steal w t (I, J) = (false, I2, J3) := (by simp only [fX10_steal, hT4, if_pos h6, if_pos h8, if_neg h10, if_neg h12])
          exact z_zreturnx C dX10_steal_46 rfl (by rw [hf18]; rfl) (by rw [hf18])

noncomputable def fX10_day (S : Mi × Mj) : Int × Mi × Mj :=
  match S with
  | (I, J) =>
    match fX10_lay ((wi I 57 0 0), J) with
    | (r1, I2, J3) =>
      if (gi I 59 109) = 9999 then
        (-1, I2, J3)
      else
        match fX10_snap (I2, J3) with
        | (r7, I8, J9) =>
          match fX10_giveBack ((wi I8 59 109 ((gi I 59 109) + 1)), J9) with
          | (r11, I12, J13) =>
            (w32 ((gi I 59 109) + 1), I12, J13)
theorem frX10_day {S : Mi × Mj} {r0 : Int} {I0 : Mi} {J0 : Mj} (h : fX10_day  S = (r0, I0, J0)) (aq kq : Nat) (haq : aq ≠ 62 ∧ ¬ (aq = 57 ∧ kq = 0) ∧ ¬ (aq = 57 ∧ kq = 22) ∧ ¬ (aq = 57 ∧ kq = 23) ∧ ¬ (aq = 59 ∧ kq = 109) ∧ ¬ (aq = 59 ∧ kq = 110) ∧ ¬ (aq = 59 ∧ kq = 111) ∧ ¬ (aq = 59 ∧ kq = 4) ∧ ¬ (aq = 59 ∧ kq = 5) ∧ ¬ (aq = 59 ∧ kq = 6)) : I0 aq kq = S.1 aq kq := by
  obtain ⟨I, J⟩ := S
  unfold fX10_day at h
  try simp only at h
  obtain ⟨⟨r1, I2, J3⟩, hq1⟩ : ∃ q, q = fX10_lay ((wi I 57 0 0), J) := ⟨_, rfl⟩
  rw [← hq1] at h; try simp only at h
  by_cases hq2 : (gi I 59 109) = 9999
  · simp only [if_pos hq2] at h
    simp only [Prod.mk.injEq] at h
    obtain ⟨-, hI, hJ⟩ := h
    exact (congrFun (congrFun hI aq) kq).symm.trans (Eq.trans (frX10_lay hq1.symm aq kq ⟨haq.2.2.1, haq.2.2.2.2.2.1, haq.2.2.2.2.2.2.1, haq.2.2.2.2.2.2.2.1, haq.2.2.2.2.2.2.2.2.1, haq.2.2.2.2.2.2.2.2.2⟩) (Eq.trans (wi_nc _ _ haq.2.1) rfl))
  · simp only [if_neg hq2] at h
    obtain ⟨⟨r7, I8, J9⟩, hq3⟩ : ∃ q, q = fX10_snap (I2, J3) := ⟨_, rfl⟩
    rw [← hq3] at h; try simp only at h
    obtain ⟨⟨r11, I12, J13⟩, hq4⟩ : ∃ q, q = fX10_giveBack ((wi I8 59 109 ((gi I 59 109) + 1)), J9) := ⟨_, rfl⟩
    rw [← hq4] at h; try simp only at h
    simp only [Prod.mk.injEq] at h
    obtain ⟨-, hI, hJ⟩ := h
    exact (congrFun (congrFun hI aq) kq).symm.trans (Eq.trans (frX10_giveBack hq4.symm aq kq ⟨haq.2.2.2.2.2.1, haq.2.2.2.2.2.2.1⟩) (Eq.trans (wi_nc _ _ haq.2.2.2.2.1) (Eq.trans (frX10_snap hq3.symm aq kq ⟨haq.1, haq.2.2.2.1⟩) (Eq.trans (frX10_lay hq1.symm aq kq ⟨haq.2.2.1, haq.2.2.2.2.2.1, haq.2.2.2.2.2.2.1, haq.2.2.2.2.2.2.2.1, haq.2.2.2.2.2.2.2.2.1, haq.2.2.2.2.2.2.2.2.2⟩) (Eq.trans (wi_nc _ _ haq.2.1) rfl)))))
theorem fjX10_day {S : Mi × Mj} {r0 : Int} {I0 : Mi} {J0 : Mj} (h : fX10_day  S = (r0, I0, J0)) (aq kq : Nat) (haq : True) : J0 aq kq = S.2 aq kq := by
  obtain ⟨I, J⟩ := S
  unfold fX10_day at h
  try simp only at h
  obtain ⟨⟨r1, I2, J3⟩, hq1⟩ : ∃ q, q = fX10_lay ((wi I 57 0 0), J) := ⟨_, rfl⟩
  rw [← hq1] at h; try simp only at h
  by_cases hq2 : (gi I 59 109) = 9999
  · simp only [if_pos hq2] at h
    simp only [Prod.mk.injEq] at h
    obtain ⟨-, hI, hJ⟩ := h
    exact (congrFun (congrFun hJ aq) kq).symm.trans (Eq.trans (fjX10_lay hq1.symm aq kq trivial) rfl)
  · simp only [if_neg hq2] at h
    obtain ⟨⟨r7, I8, J9⟩, hq3⟩ : ∃ q, q = fX10_snap (I2, J3) := ⟨_, rfl⟩
    rw [← hq3] at h; try simp only at h
    obtain ⟨⟨r11, I12, J13⟩, hq4⟩ : ∃ q, q = fX10_giveBack ((wi I8 59 109 ((gi I 59 109) + 1)), J9) := ⟨_, rfl⟩
    rw [← hq4] at h; try simp only at h
    simp only [Prod.mk.injEq] at h
    obtain ⟨-, hI, hJ⟩ := h
    exact (congrFun (congrFun hJ aq) kq).symm.trans (Eq.trans (fjX10_giveBack hq4.symm aq kq trivial) (Eq.trans (fjX10_snap hq3.symm aq kq trivial) (Eq.trans (fjX10_lay hq1.symm aq kq trivial) rfl)))
set_option maxHeartbeats 4000000 in
set_option maxRecDepth 100000 in
theorem qX10_day {G : Gx} {σ : State} (hC : Cz G σ) {sh : Sh} {I : Mi} {J : Mj}  (hS : St sh) (hn : NX (I 59)) (hsn : 0 ≤ gi I 57 23 ∧ gi I 57 23 ≤ 6) : Ce G σ 3 yX10_day cX10_day 1 (some .int) [.ref (G.2.2 + 57)] (sh, I, J) 0 0 (some (.int (iv ((fX10_day (I, J)).1)))) (sh, (fX10_day (I, J)).2.1, (fX10_day (I, J)).2.2) := by
  refine Ct.of hC (by decide +kernel) (Nat.le_of_ble_eq_true rfl) ?_
  intro p l e R s m args below meth c C
  show Jz G σ p l e R s m args below meth c 1 0 0 (Qx (some (.int (iv ((fX10_day (I, J)).1)))) (sh, (fX10_day (I, J)).2.1, (fX10_day (I, J)).2.2)) (sh, I, J) 0 0 0 [(0, .ref (G.2.2 + 57))] []
  refine z_aload_n C dX10_day_0 0 rfl ?_
  refine z_iconst C dX10_day_1 ?_
  refine z_putI C dX10_day_2 fX10_83 rfl rfl (kd_57 hS) rfl rfl ?_
  refine z_aload_n C dX10_day_5 0 rfl ?_
  refine z_cVvF (st := []) (F := fX10_lay ((wi I 57 0 0), J)) C dX10_day_6 mX10_167 (kd_57 hS) (qX10_lay hC  hS) rfl rfl (Nat.le_of_ble_eq_true rfl) (by decide) (fun r1 I2 J3 hT4 => ?_)
  have hn5 : NX (I2 59) := nxX10_lay hT4 hn
  refine z_aload_n C dX10_day_9 0 rfl ?_
  refine z_getR C dX10_day_10 fX10_13 rfl (kd_57 hS) (r_57_14 hS) ?_
  refine z_bipush C dX10_day_13 (by decide) ?_
  refine z_iald (q := 109) C dX10_day_15 (ka_59 hS) rfl (by decide) ?_
  refine z_eqi (gi I 59 109) (Eq.trans (gi_fk (frX10_lay hT4 59 109 (by decide))) (gi_wi_na _ _ _ _ (by decide))) ?_
  refine z_sipush C dX10_day_16 (by decide) ?_
  refine z_icmp_ne 24 C dX10_day_19 (by decide) (gi_rng _ _ _) (by decide) (fun h6 => ?_) (fun h6 => ?_)
  ·
    refine z_aload_n C dX10_day_24 0 rfl ?_
    refine z_cVvF (st := []) (F := fX10_snap (I2, J3)) C dX10_day_25 mX10_272 (kd_57 hS) (qX10_snap hC  hS (by have : gi I2 57 23 = gi I 57 23 := (Eq.trans (gi_fk (frX10_lay hT4 57 23 (by decide))) (gi_wi_nk _ _ _ (by decide))); have := gi_rng I 57 23; have := gi_rng I2 57 23; omega)) rfl rfl (Nat.le_of_ble_eq_true rfl) (by decide) (fun r7 I8 J9 hT10 => ?_)
    refine z_aload_n C dX10_day_28 0 rfl ?_
    refine z_getR C dX10_day_29 fX10_13 rfl (kd_57 hS) (r_57_14 hS) ?_
    refine z_bipush C dX10_day_32 (by decide) ?_
    refine z_dup2 C dX10_day_34 rfl rfl ?_
    refine z_iald (q := 109) C dX10_day_35 (ka_59 hS) rfl (by decide) ?_
    refine z_eqi (gi I 59 109) (Eq.trans (gi_fk (frX10_snap hT10 59 109 (by decide))) (Eq.trans (gi_fk (frX10_lay hT4 59 109 (by decide))) (gi_wi_na _ _ _ _ (by decide)))) ?_
    refine z_iconst C dX10_day_36 ?_
    refine z_iadd C dX10_day_37 ?_
    refine z_iast (q := 109) C dX10_day_38 (ka_59 hS) rfl (by decide) ?_
    refine z_aload_n C dX10_day_39 0 rfl ?_
    refine z_cVvF (st := []) (F := fX10_giveBack ((wi I8 59 109 ((gi I 59 109) + 1)), J9)) C dX10_day_40 mX10_335 (kd_57 hS) (qX10_giveBack hC  hS) rfl rfl (Nat.le_of_ble_eq_true rfl) (by decide) (fun r11 I12 J13 hT14 => ?_)
    refine z_aload_n C dX10_day_43 0 rfl ?_
    refine z_getR C dX10_day_44 fX10_13 rfl (kd_57 hS) (r_57_14 hS) ?_
    refine z_bipush C dX10_day_47 (by decide) ?_
    refine z_iald (q := 109) C dX10_day_49 (ka_59 hS) rfl (by decide) ?_
    refine z_eqi (w32 ((gi I 59 109) + 1)) (Eq.trans (gi_fk (frX10_giveBack hT14 59 109 (by decide))) (gi_wi_w _ _ _ _)) ?_
    have hf15 : fX10_day (I, J) = (w32 ((gi I 59 109) + 1), I12, J13) := (by simp only [fX10_day, hT4, if_neg h6, hT10, hT14])
    exact z_ireturnx C dX10_day_50 (by rw [hf15]) (by rw [hf15])
  ·
    refine z_iconst C dX10_day_22 ?_
    have hf16 : fX10_day (I, J) = (-1, I2, J3) := (by simp only [fX10_day, hT4, if_pos h6])
    exact z_ireturnx C dX10_day_23 (by rw [hf16]) (by rw [hf16])

noncomputable def fX10_rob (w : Int) (q : Int) (S : Mi × Mj) : Bool × Mi × Mj :=
  match S with
  | (I, J) =>
    match fX10_lay ((wi I 57 0 0), J) with
    | (r1, I2, J3) =>
      if 0 ≤ w ∧ w < gi I 59 0 then
        if 0 ≤ q ∧ q < gi I 59 108 then
          if (gi I2 59 (120 + 32 * q + 1).toNat) = w then
            (false, I2, J3)
          else
            if (gi I2 59 (8 + 3 * w + 2).toNat) ≤ 0 then
              match fX10_snap (I2, J3) with
              | (r13, I14, J15) =>
                (true, (wi I14 59 (((120 + (32 * q)) + 1).toNat) w), J15)
            else
              (false, I2, J3)
        else
          (false, I2, J3)
      else
        (false, I2, J3)
theorem frX10_rob {w : Int} {q : Int} {S : Mi × Mj} {r0 : Bool} {I0 : Mi} {J0 : Mj} (h : fX10_rob w q S = (r0, I0, J0)) (aq kq : Nat) (haq : aq ≠ 59 ∧ aq ≠ 62 ∧ ¬ (aq = 57 ∧ kq = 0) ∧ ¬ (aq = 57 ∧ kq = 22) ∧ ¬ (aq = 57 ∧ kq = 23)) : I0 aq kq = S.1 aq kq := by
  obtain ⟨I, J⟩ := S
  unfold fX10_rob at h
  try simp only at h
  obtain ⟨⟨r1, I2, J3⟩, hq1⟩ : ∃ q, q = fX10_lay ((wi I 57 0 0), J) := ⟨_, rfl⟩
  rw [← hq1] at h; try simp only at h
  by_cases hq2 : 0 ≤ w ∧ w < gi I 59 0
  · simp only [if_pos hq2] at h
    by_cases hq3 : 0 ≤ q ∧ q < gi I 59 108
    · simp only [if_pos hq3] at h
      by_cases hq4 : (gi I2 59 (120 + 32 * q + 1).toNat) = w
      · simp only [if_pos hq4] at h
        simp only [Prod.mk.injEq] at h
        obtain ⟨-, hI, hJ⟩ := h
        exact (congrFun (congrFun hI aq) kq).symm.trans (Eq.trans (frX10_lay hq1.symm aq kq ⟨haq.2.2.2.1, (fun q => haq.1 q.1), (fun q => haq.1 q.1), (fun q => haq.1 q.1), (fun q => haq.1 q.1), (fun q => haq.1 q.1)⟩) (Eq.trans (wi_nc _ _ haq.2.2.1) rfl))
      · simp only [if_neg hq4] at h
        by_cases hq5 : (gi I2 59 (8 + 3 * w + 2).toNat) ≤ 0
        · simp only [if_pos hq5] at h
          obtain ⟨⟨r13, I14, J15⟩, hq6⟩ : ∃ q, q = fX10_snap (I2, J3) := ⟨_, rfl⟩
          rw [← hq6] at h; try simp only at h
          simp only [Prod.mk.injEq] at h
          obtain ⟨-, hI, hJ⟩ := h
          exact (congrFun (congrFun hI aq) kq).symm.trans (Eq.trans (wi_nc _ _ (fun q => haq.1 q.1)) (Eq.trans (frX10_snap hq6.symm aq kq ⟨haq.2.1, haq.2.2.2.2⟩) (Eq.trans (frX10_lay hq1.symm aq kq ⟨haq.2.2.2.1, (fun q => haq.1 q.1), (fun q => haq.1 q.1), (fun q => haq.1 q.1), (fun q => haq.1 q.1), (fun q => haq.1 q.1)⟩) (Eq.trans (wi_nc _ _ haq.2.2.1) rfl))))
        · simp only [if_neg hq5] at h
          simp only [Prod.mk.injEq] at h
          obtain ⟨-, hI, hJ⟩ := h
          exact (congrFun (congrFun hI aq) kq).symm.trans (Eq.trans (frX10_lay hq1.symm aq kq ⟨haq.2.2.2.1, (fun q => haq.1 q.1), (fun q => haq.1 q.1), (fun q => haq.1 q.1), (fun q => haq.1 q.1), (fun q => haq.1 q.1)⟩) (Eq.trans (wi_nc _ _ haq.2.2.1) rfl))
    · simp only [if_neg hq3] at h
      simp only [Prod.mk.injEq] at h
      obtain ⟨-, hI, hJ⟩ := h
      exact (congrFun (congrFun hI aq) kq).symm.trans (Eq.trans (frX10_lay hq1.symm aq kq ⟨haq.2.2.2.1, (fun q => haq.1 q.1), (fun q => haq.1 q.1), (fun q => haq.1 q.1), (fun q => haq.1 q.1), (fun q => haq.1 q.1)⟩) (Eq.trans (wi_nc _ _ haq.2.2.1) rfl))
  · simp only [if_neg hq2] at h
    simp only [Prod.mk.injEq] at h
    obtain ⟨-, hI, hJ⟩ := h
    exact (congrFun (congrFun hI aq) kq).symm.trans (Eq.trans (frX10_lay hq1.symm aq kq ⟨haq.2.2.2.1, (fun q => haq.1 q.1), (fun q => haq.1 q.1), (fun q => haq.1 q.1), (fun q => haq.1 q.1), (fun q => haq.1 q.1)⟩) (Eq.trans (wi_nc _ _ haq.2.2.1) rfl))
theorem fjX10_rob {w : Int} {q : Int} {S : Mi × Mj} {r0 : Bool} {I0 : Mi} {J0 : Mj} (h : fX10_rob w q S = (r0, I0, J0)) (aq kq : Nat) (haq : True) : J0 aq kq = S.2 aq kq := by
  obtain ⟨I, J⟩ := S
  unfold fX10_rob at h
  try simp only at h
  obtain ⟨⟨r1, I2, J3⟩, hq1⟩ : ∃ q, q = fX10_lay ((wi I 57 0 0), J) := ⟨_, rfl⟩
  rw [← hq1] at h; try simp only at h
  by_cases hq2 : 0 ≤ w ∧ w < gi I 59 0
  · simp only [if_pos hq2] at h
    by_cases hq3 : 0 ≤ q ∧ q < gi I 59 108
    · simp only [if_pos hq3] at h
      by_cases hq4 : (gi I2 59 (120 + 32 * q + 1).toNat) = w
      · simp only [if_pos hq4] at h
        simp only [Prod.mk.injEq] at h
        obtain ⟨-, hI, hJ⟩ := h
        exact (congrFun (congrFun hJ aq) kq).symm.trans (Eq.trans (fjX10_lay hq1.symm aq kq trivial) rfl)
      · simp only [if_neg hq4] at h
        by_cases hq5 : (gi I2 59 (8 + 3 * w + 2).toNat) ≤ 0
        · simp only [if_pos hq5] at h
          obtain ⟨⟨r13, I14, J15⟩, hq6⟩ : ∃ q, q = fX10_snap (I2, J3) := ⟨_, rfl⟩
          rw [← hq6] at h; try simp only at h
          simp only [Prod.mk.injEq] at h
          obtain ⟨-, hI, hJ⟩ := h
          exact (congrFun (congrFun hJ aq) kq).symm.trans (Eq.trans (fjX10_snap hq6.symm aq kq trivial) (Eq.trans (fjX10_lay hq1.symm aq kq trivial) rfl))
        · simp only [if_neg hq5] at h
          simp only [Prod.mk.injEq] at h
          obtain ⟨-, hI, hJ⟩ := h
          exact (congrFun (congrFun hJ aq) kq).symm.trans (Eq.trans (fjX10_lay hq1.symm aq kq trivial) rfl)
    · simp only [if_neg hq3] at h
      simp only [Prod.mk.injEq] at h
      obtain ⟨-, hI, hJ⟩ := h
      exact (congrFun (congrFun hJ aq) kq).symm.trans (Eq.trans (fjX10_lay hq1.symm aq kq trivial) rfl)
  · simp only [if_neg hq2] at h
    simp only [Prod.mk.injEq] at h
    obtain ⟨-, hI, hJ⟩ := h
    exact (congrFun (congrFun hJ aq) kq).symm.trans (Eq.trans (fjX10_lay hq1.symm aq kq trivial) rfl)
set_option maxHeartbeats 4000000 in
set_option maxRecDepth 100000 in
theorem qX10_rob {G : Gx} {σ : State} (hC : Cz G σ) {sh : Sh} {I : Mi} {J : Mj} (w q : Int) (hS : St sh) (hn : NX (I 59)) (hsn : 0 ≤ gi I 57 23 ∧ gi I 57 23 ≤ 6) (rw : -2147483648 ≤ w ∧ w < 2147483648) (rq : -2147483648 ≤ q ∧ q < 2147483648) : Ce G σ 3 yX10_rob cX10_rob 3 (some .boolean) [.ref (G.2.2 + 57), .int (iv (w)), .int (iv (q))] (sh, I, J) 0 0 (some (.int (iv (b2 ((fX10_rob w q (I, J)).1 = true))))) (sh, (fX10_rob w q (I, J)).2.1, (fX10_rob w q (I, J)).2.2) := by
  refine Ct.of hC (by decide +kernel) (Nat.le_of_ble_eq_true rfl) ?_
  intro p l e R s m args below meth c C
  show Jz G σ p l e R s m args below meth c 3 0 0 (Qx (some (.int (iv (b2 ((fX10_rob w q (I, J)).1 = true))))) (sh, (fX10_rob w q (I, J)).2.1, (fX10_rob w q (I, J)).2.2)) (sh, I, J) 0 0 0 [(0, .ref (G.2.2 + 57)), (1, .int (iv (w))), (2, .int (iv (q)))] []
  refine z_aload_n C dX10_rob_0 0 rfl ?_
  refine z_iconst C dX10_rob_1 ?_
  refine z_putI C dX10_rob_2 fX10_83 rfl rfl (kd_57 hS) rfl rfl ?_
  refine z_aload_n C dX10_rob_5 0 rfl ?_
  refine z_cVvF (st := []) (F := fX10_lay ((wi I 57 0 0), J)) C dX10_rob_6 mX10_167 (kd_57 hS) (qX10_lay hC  hS) rfl rfl (Nat.le_of_ble_eq_true rfl) (by decide) (fun r1 I2 J3 hT4 => ?_)
  have hn5 : NX (I2 59) := nxX10_lay hT4 hn
  have e108 := (show gi I2 59 108 = gi I 59 108 from (Eq.trans (gi_fk (frX10_lay hT4 59 108 (by decide))) (gi_wi_na _ _ _ _ (by decide))))
  have e0 := (show gi I2 59 0 = gi I 59 0 from (Eq.trans (gi_fk (frX10_lay hT4 59 0 (by decide))) (gi_wi_na _ _ _ _ (by decide))))
  have e1 := (show gi I2 59 1 = gi I 59 1 from (Eq.trans (gi_fk (frX10_lay hT4 59 1 (by decide))) (gi_wi_na _ _ _ _ (by decide))))
  have e112 := (show gi I2 59 112 = gi I 59 112 from (Eq.trans (gi_fk (frX10_lay hT4 59 112 (by decide))) (gi_wi_na _ _ _ _ (by decide))))
  have e113 := (show gi I2 59 113 = gi I 59 113 from (Eq.trans (gi_fk (frX10_lay hT4 59 113 (by decide))) (gi_wi_na _ _ _ _ (by decide))))
  have b108 := nx_c hn5
  have b0 := nx_p hn5
  have b1 := nx_m hn5
  have b112 := nx_s hn5
  have b113 := nx_sl hn5
  have b6 := nx_st hn5
  refine z_aload_n C dX10_rob_9 0 rfl ?_
  refine z_iload_n C dX10_rob_10 1 rfl ?_
  refine z_cVi (st := []) C dX10_rob_11 mX10_243 (kd_57 hS) (qX10_isWho hC w hS rw) rfl rfl (Nat.le_of_ble_eq_true rfl) (by decide) ?_
  refine z_eqi (b2 (0 ≤ w ∧ w < gi I 59 0)) (b2_iff (by rw [show gi I2 59 0 = gi I 59 0 from (Eq.trans (gi_fk (frX10_lay hT4 59 0 (by decide))) (gi_wi_na _ _ _ _ (by decide)))])) ?_
  refine z_if_eq_b 44 C dX10_rob_14 (by decide) (fun h6 => ?_) (fun h6 => ?_)
  ·
    refine z_iconst C dX10_rob_44 ?_
    have hf7 : fX10_rob w q (I, J) = (false, I2, J3) := (by simp only [fX10_rob, hT4, if_neg h6])
    exact z_zreturnx C dX10_rob_45 rfl (by rw [hf7]; rfl) (by rw [hf7])
  ·
    refine z_aload_n C dX10_rob_17 0 rfl ?_
    refine z_iload_n C dX10_rob_18 2 rfl ?_
    refine z_cVi (st := []) C dX10_rob_19 mX10_282 (kd_57 hS) (qX10_isCoin hC q hS rq) rfl rfl (Nat.le_of_ble_eq_true rfl) (by decide) ?_
    refine z_eqi (b2 (0 ≤ q ∧ q < gi I 59 108)) (b2_iff (by rw [show gi I2 59 108 = gi I 59 108 from (Eq.trans (gi_fk (frX10_lay hT4 59 108 (by decide))) (gi_wi_na _ _ _ _ (by decide)))])) ?_
    refine z_if_eq_b 44 C dX10_rob_22 (by decide) (fun h8 => ?_) (fun h8 => ?_)
    ·
      refine z_iconst C dX10_rob_44 ?_
      have hf9 : fX10_rob w q (I, J) = (false, I2, J3) := (by simp only [fX10_rob, hT4, if_pos h6, if_neg h8])
      exact z_zreturnx C dX10_rob_45 rfl (by rw [hf9]; rfl) (by rw [hf9])
    ·
      refine z_aload_n C dX10_rob_25 0 rfl ?_
      refine z_iload_n C dX10_rob_26 2 rfl ?_
      refine z_iconst C dX10_rob_27 ?_
      refine z_cVi (st := []) C dX10_rob_28 mX10_256 (kd_57 hS) (qX10_ofCoin hC q 1 hS (by omega) (by omega)) rfl rfl (Nat.le_of_ble_eq_true rfl) (by decide) ?_
      refine z_iload_n C dX10_rob_31 1 rfl ?_
      refine z_icmp_eq 44 C dX10_rob_32 (by decide) (gi_rng _ _ _) (by omega) (fun h10 => ?_) (fun h10 => ?_)
      ·
        refine z_iconst C dX10_rob_44 ?_
        have hf11 : fX10_rob w q (I, J) = (false, I2, J3) := (by simp only [fX10_rob, hT4, if_pos h6, if_pos h8, if_pos h10])
        exact z_zreturnx C dX10_rob_45 rfl (by rw [hf11]; rfl) (by rw [hf11])
      ·
        refine z_aload_n C dX10_rob_35 0 rfl ?_
        refine z_iload_n C dX10_rob_36 1 rfl ?_
        refine z_iconst C dX10_rob_37 ?_
        refine z_cVi (st := []) C dX10_rob_38 mX10_249 (kd_57 hS) (qX10_ofWho hC w 2 hS (by omega) (by omega)) rfl rfl (Nat.le_of_ble_eq_true rfl) (by decide) ?_
        refine z_if_le 46 C dX10_rob_41 (by decide) (gi_rng _ _ _) (fun h12 => ?_) (fun h12 => ?_)
        ·
          refine z_aload_n C dX10_rob_46 0 rfl ?_
          refine z_cVvF (st := []) (F := fX10_snap (I2, J3)) C dX10_rob_47 mX10_272 (kd_57 hS) (qX10_snap hC  hS (by have : gi I2 57 23 = gi I 57 23 := (Eq.trans (gi_fk (frX10_lay hT4 57 23 (by decide))) (gi_wi_nk _ _ _ (by decide))); have := gi_rng I 57 23; have := gi_rng I2 57 23; omega)) rfl rfl (Nat.le_of_ble_eq_true rfl) (by decide) (fun r13 I14 J15 hT16 => ?_)
          refine z_aload_n C dX10_rob_50 0 rfl ?_
          refine z_getR C dX10_rob_51 fX10_13 rfl (kd_57 hS) (r_57_14 hS) ?_
          refine z_bipush C dX10_rob_54 (by decide) ?_
          refine z_bipush C dX10_rob_56 (by decide) ?_
          refine z_iload_n C dX10_rob_58 2 rfl ?_
          refine z_imul C dX10_rob_59 ?_
          refine z_iadd C dX10_rob_60 ?_
          refine z_iconst C dX10_rob_61 ?_
          refine z_iadd C dX10_rob_62 ?_
          refine z_iload_n C dX10_rob_63 1 rfl ?_
          refine z_iast (q := ((120 + (32 * q)) + 1).toNat) C dX10_rob_64 (ka_59 hS) (by omega) (by omega) ?_
          refine z_iconst C dX10_rob_65 ?_
          have hf17 : fX10_rob w q (I, J) = (true, (wi I14 59 (((120 + (32 * q)) + 1).toNat) w), J15) := (by simp only [fX10_rob, hT4, if_pos h6, if_pos h8, if_neg h10, if_pos h12, hT16])
          exact z_zreturnx C dX10_rob_66 rfl (by rw [hf17]; rfl) (by rw [hf17])
        ·
          refine z_iconst C dX10_rob_44 ?_
          have hf18 : fX10_rob w q (I, J) = (false, I2, J3) := (by simp only [fX10_rob, hT4, if_pos h6, if_pos h8, if_neg h10, if_neg h12])
          exact z_zreturnx C dX10_rob_45 rfl (by rw [hf18]; rfl) (by rw [hf18])

noncomputable def fX10_close (t : Int) (S : Mi × Mj) : Bool × Mi × Mj :=
  match S with
  | (I, J) =>
    match fX10_lay ((wi I 57 0 0), J) with
    | (r1, I2, J3) =>
      if 0 ≤ t ∧ t < gi I 59 1 then
        if (gi I2 59 (32 + 3 * t + 2).toNat) ≤ 0 then
          match fX10_snap (I2, J3) with
          | (r9, I10, J11) =>
            (true, (wi I10 59 (((32 + (3 * t)) + 2).toNat) 1), J11)
        else
          (false, I2, J3)
      else
        (false, I2, J3)
theorem frX10_close {t : Int} {S : Mi × Mj} {r0 : Bool} {I0 : Mi} {J0 : Mj} (h : fX10_close t S = (r0, I0, J0)) (aq kq : Nat) (haq : aq ≠ 59 ∧ aq ≠ 62 ∧ ¬ (aq = 57 ∧ kq = 0) ∧ ¬ (aq = 57 ∧ kq = 22) ∧ ¬ (aq = 57 ∧ kq = 23)) : I0 aq kq = S.1 aq kq := by
  obtain ⟨I, J⟩ := S
  unfold fX10_close at h
  try simp only at h
  obtain ⟨⟨r1, I2, J3⟩, hq1⟩ : ∃ q, q = fX10_lay ((wi I 57 0 0), J) := ⟨_, rfl⟩
  rw [← hq1] at h; try simp only at h
  by_cases hq2 : 0 ≤ t ∧ t < gi I 59 1
  · simp only [if_pos hq2] at h
    by_cases hq3 : (gi I2 59 (32 + 3 * t + 2).toNat) ≤ 0
    · simp only [if_pos hq3] at h
      obtain ⟨⟨r9, I10, J11⟩, hq4⟩ : ∃ q, q = fX10_snap (I2, J3) := ⟨_, rfl⟩
      rw [← hq4] at h; try simp only at h
      simp only [Prod.mk.injEq] at h
      obtain ⟨-, hI, hJ⟩ := h
      exact (congrFun (congrFun hI aq) kq).symm.trans (Eq.trans (wi_nc _ _ (fun q => haq.1 q.1)) (Eq.trans (frX10_snap hq4.symm aq kq ⟨haq.2.1, haq.2.2.2.2⟩) (Eq.trans (frX10_lay hq1.symm aq kq ⟨haq.2.2.2.1, (fun q => haq.1 q.1), (fun q => haq.1 q.1), (fun q => haq.1 q.1), (fun q => haq.1 q.1), (fun q => haq.1 q.1)⟩) (Eq.trans (wi_nc _ _ haq.2.2.1) rfl))))
    · simp only [if_neg hq3] at h
      simp only [Prod.mk.injEq] at h
      obtain ⟨-, hI, hJ⟩ := h
      exact (congrFun (congrFun hI aq) kq).symm.trans (Eq.trans (frX10_lay hq1.symm aq kq ⟨haq.2.2.2.1, (fun q => haq.1 q.1), (fun q => haq.1 q.1), (fun q => haq.1 q.1), (fun q => haq.1 q.1), (fun q => haq.1 q.1)⟩) (Eq.trans (wi_nc _ _ haq.2.2.1) rfl))
  · simp only [if_neg hq2] at h
    simp only [Prod.mk.injEq] at h
    obtain ⟨-, hI, hJ⟩ := h
    exact (congrFun (congrFun hI aq) kq).symm.trans (Eq.trans (frX10_lay hq1.symm aq kq ⟨haq.2.2.2.1, (fun q => haq.1 q.1), (fun q => haq.1 q.1), (fun q => haq.1 q.1), (fun q => haq.1 q.1), (fun q => haq.1 q.1)⟩) (Eq.trans (wi_nc _ _ haq.2.2.1) rfl))
theorem fjX10_close {t : Int} {S : Mi × Mj} {r0 : Bool} {I0 : Mi} {J0 : Mj} (h : fX10_close t S = (r0, I0, J0)) (aq kq : Nat) (haq : True) : J0 aq kq = S.2 aq kq := by
  obtain ⟨I, J⟩ := S
  unfold fX10_close at h
  try simp only at h
  obtain ⟨⟨r1, I2, J3⟩, hq1⟩ : ∃ q, q = fX10_lay ((wi I 57 0 0), J) := ⟨_, rfl⟩
  rw [← hq1] at h; try simp only at h
  by_cases hq2 : 0 ≤ t ∧ t < gi I 59 1
  · simp only [if_pos hq2] at h
    by_cases hq3 : (gi I2 59 (32 + 3 * t + 2).toNat) ≤ 0
    · simp only [if_pos hq3] at h
      obtain ⟨⟨r9, I10, J11⟩, hq4⟩ : ∃ q, q = fX10_snap (I2, J3) := ⟨_, rfl⟩
      rw [← hq4] at h; try simp only at h
      simp only [Prod.mk.injEq] at h
      obtain ⟨-, hI, hJ⟩ := h
      exact (congrFun (congrFun hJ aq) kq).symm.trans (Eq.trans (fjX10_snap hq4.symm aq kq trivial) (Eq.trans (fjX10_lay hq1.symm aq kq trivial) rfl))
    · simp only [if_neg hq3] at h
      simp only [Prod.mk.injEq] at h
      obtain ⟨-, hI, hJ⟩ := h
      exact (congrFun (congrFun hJ aq) kq).symm.trans (Eq.trans (fjX10_lay hq1.symm aq kq trivial) rfl)
  · simp only [if_neg hq2] at h
    simp only [Prod.mk.injEq] at h
    obtain ⟨-, hI, hJ⟩ := h
    exact (congrFun (congrFun hJ aq) kq).symm.trans (Eq.trans (fjX10_lay hq1.symm aq kq trivial) rfl)
set_option maxHeartbeats 4000000 in
set_option maxRecDepth 100000 in
theorem qX10_close {G : Gx} {σ : State} (hC : Cz G σ) {sh : Sh} {I : Mi} {J : Mj} (t : Int) (hS : St sh) (hn : NX (I 59)) (hsn : 0 ≤ gi I 57 23 ∧ gi I 57 23 ≤ 6) (rt : -2147483648 ≤ t ∧ t < 2147483648) : Ce G σ 3 yX10_close cX10_close 2 (some .boolean) [.ref (G.2.2 + 57), .int (iv (t))] (sh, I, J) 0 0 (some (.int (iv (b2 ((fX10_close t (I, J)).1 = true))))) (sh, (fX10_close t (I, J)).2.1, (fX10_close t (I, J)).2.2) := by
  refine Ct.of hC (by decide +kernel) (Nat.le_of_ble_eq_true rfl) ?_
  intro p l e R s m args below meth c C
  show Jz G σ p l e R s m args below meth c 2 0 0 (Qx (some (.int (iv (b2 ((fX10_close t (I, J)).1 = true))))) (sh, (fX10_close t (I, J)).2.1, (fX10_close t (I, J)).2.2)) (sh, I, J) 0 0 0 [(0, .ref (G.2.2 + 57)), (1, .int (iv (t)))] []
  refine z_aload_n C dX10_close_0 0 rfl ?_
  refine z_iconst C dX10_close_1 ?_
  refine z_putI C dX10_close_2 fX10_83 rfl rfl (kd_57 hS) rfl rfl ?_
  refine z_aload_n C dX10_close_5 0 rfl ?_
  refine z_cVvF (st := []) (F := fX10_lay ((wi I 57 0 0), J)) C dX10_close_6 mX10_167 (kd_57 hS) (qX10_lay hC  hS) rfl rfl (Nat.le_of_ble_eq_true rfl) (by decide) (fun r1 I2 J3 hT4 => ?_)
  have hn5 : NX (I2 59) := nxX10_lay hT4 hn
  have e108 := (show gi I2 59 108 = gi I 59 108 from (Eq.trans (gi_fk (frX10_lay hT4 59 108 (by decide))) (gi_wi_na _ _ _ _ (by decide))))
  have e0 := (show gi I2 59 0 = gi I 59 0 from (Eq.trans (gi_fk (frX10_lay hT4 59 0 (by decide))) (gi_wi_na _ _ _ _ (by decide))))
  have e1 := (show gi I2 59 1 = gi I 59 1 from (Eq.trans (gi_fk (frX10_lay hT4 59 1 (by decide))) (gi_wi_na _ _ _ _ (by decide))))
  have e112 := (show gi I2 59 112 = gi I 59 112 from (Eq.trans (gi_fk (frX10_lay hT4 59 112 (by decide))) (gi_wi_na _ _ _ _ (by decide))))
  have e113 := (show gi I2 59 113 = gi I 59 113 from (Eq.trans (gi_fk (frX10_lay hT4 59 113 (by decide))) (gi_wi_na _ _ _ _ (by decide))))
  have b108 := nx_c hn5
  have b0 := nx_p hn5
  have b1 := nx_m hn5
  have b112 := nx_s hn5
  have b113 := nx_sl hn5
  have b6 := nx_st hn5
  refine z_aload_n C dX10_close_9 0 rfl ?_
  refine z_iload_n C dX10_close_10 1 rfl ?_
  refine z_cVi (st := []) C dX10_close_11 mX10_259 (kd_57 hS) (qX10_isMint hC t hS rt) rfl rfl (Nat.le_of_ble_eq_true rfl) (by decide) ?_
  refine z_eqi (b2 (0 ≤ t ∧ t < gi I 59 1)) (b2_iff (by rw [show gi I2 59 1 = gi I 59 1 from (Eq.trans (gi_fk (frX10_lay hT4 59 1 (by decide))) (gi_wi_na _ _ _ _ (by decide)))])) ?_
  refine z_if_eq_b 26 C dX10_close_14 (by decide) (fun h6 => ?_) (fun h6 => ?_)
  ·
    refine z_iconst C dX10_close_26 ?_
    have hf7 : fX10_close t (I, J) = (false, I2, J3) := (by simp only [fX10_close, hT4, if_neg h6])
    exact z_zreturnx C dX10_close_27 rfl (by rw [hf7]; rfl) (by rw [hf7])
  ·
    refine z_aload_n C dX10_close_17 0 rfl ?_
    refine z_iload_n C dX10_close_18 1 rfl ?_
    refine z_iconst C dX10_close_19 ?_
    refine z_cVi (st := []) C dX10_close_20 mX10_262 (kd_57 hS) (qX10_ofMint hC t 2 hS (by omega) (by omega)) rfl rfl (Nat.le_of_ble_eq_true rfl) (by decide) ?_
    refine z_if_le 28 C dX10_close_23 (by decide) (gi_rng _ _ _) (fun h8 => ?_) (fun h8 => ?_)
    ·
      refine z_aload_n C dX10_close_28 0 rfl ?_
      refine z_cVvF (st := []) (F := fX10_snap (I2, J3)) C dX10_close_29 mX10_272 (kd_57 hS) (qX10_snap hC  hS (by have : gi I2 57 23 = gi I 57 23 := (Eq.trans (gi_fk (frX10_lay hT4 57 23 (by decide))) (gi_wi_nk _ _ _ (by decide))); have := gi_rng I 57 23; have := gi_rng I2 57 23; omega)) rfl rfl (Nat.le_of_ble_eq_true rfl) (by decide) (fun r9 I10 J11 hT12 => ?_)
      refine z_aload_n C dX10_close_32 0 rfl ?_
      refine z_getR C dX10_close_33 fX10_13 rfl (kd_57 hS) (r_57_14 hS) ?_
      refine z_bipush C dX10_close_36 (by decide) ?_
      refine z_iconst C dX10_close_38 ?_
      refine z_iload_n C dX10_close_39 1 rfl ?_
      refine z_imul C dX10_close_40 ?_
      refine z_iadd C dX10_close_41 ?_
      refine z_iconst C dX10_close_42 ?_
      refine z_iadd C dX10_close_43 ?_
      refine z_iconst C dX10_close_44 ?_
      refine z_iast (q := ((32 + (3 * t)) + 2).toNat) C dX10_close_45 (ka_59 hS) (by omega) (by omega) ?_
      refine z_iconst C dX10_close_46 ?_
      have hf13 : fX10_close t (I, J) = (true, (wi I10 59 (((32 + (3 * t)) + 2).toNat) 1), J11) := (by simp only [fX10_close, hT4, if_pos h6, if_pos h8, hT12])
      exact z_zreturnx C dX10_close_47 rfl (by rw [hf13]; rfl) (by rw [hf13])
    ·
      refine z_iconst C dX10_close_26 ?_
      have hf14 : fX10_close t (I, J) = (false, I2, J3) := (by simp only [fX10_close, hT4, if_pos h6, if_neg h8])
      exact z_zreturnx C dX10_close_27 rfl (by rw [hf14]; rfl) (by rw [hf14])

noncomputable def fX10_stroke (w : Int) (t : Int) (S : Mi × Mj) : Int × Mi × Mj :=
  match S with
  | (I, J) =>
    if w < 0 then
      (0, (wi I 57 0 1), J)
    else
      if (gi I 59 112) ≤ w then
        (0, (wi I 57 0 1), J)
      else
        if 0 ≤ t ∧ t ≤ 6 then
          if 6 ≤ t then
            (gX10_isShown w (I 59), (wi I 57 0 0), J)
          else
            (gi I 59 (((1400 + (6 * w)) + t).toNat), (wi I 57 0 0), J)
        else
          (0, (wi I 57 0 1), J)
theorem frX10_stroke {w : Int} {t : Int} {S : Mi × Mj} {r0 : Int} {I0 : Mi} {J0 : Mj} (h : fX10_stroke w t S = (r0, I0, J0)) (aq kq : Nat) (haq : ¬ (aq = 57 ∧ kq = 0)) : I0 aq kq = S.1 aq kq := by
  obtain ⟨I, J⟩ := S
  unfold fX10_stroke at h
  try simp only at h
  by_cases hq1 : w < 0
  · simp only [if_pos hq1] at h
    simp only [Prod.mk.injEq] at h
    obtain ⟨-, hI, hJ⟩ := h
    exact (congrFun (congrFun hI aq) kq).symm.trans (Eq.trans (wi_nc _ _ haq) rfl)
  · simp only [if_neg hq1] at h
    by_cases hq2 : (gi I 59 112) ≤ w
    · simp only [if_pos hq2] at h
      simp only [Prod.mk.injEq] at h
      obtain ⟨-, hI, hJ⟩ := h
      exact (congrFun (congrFun hI aq) kq).symm.trans (Eq.trans (wi_nc _ _ haq) rfl)
    · simp only [if_neg hq2] at h
      by_cases hq3 : 0 ≤ t ∧ t ≤ 6
      · simp only [if_pos hq3] at h
        by_cases hq4 : 6 ≤ t
        · simp only [if_pos hq4] at h
          simp only [Prod.mk.injEq] at h
          obtain ⟨-, hI, hJ⟩ := h
          exact (congrFun (congrFun hI aq) kq).symm.trans (Eq.trans (wi_nc _ _ haq) rfl)
        · simp only [if_neg hq4] at h
          simp only [Prod.mk.injEq] at h
          obtain ⟨-, hI, hJ⟩ := h
          exact (congrFun (congrFun hI aq) kq).symm.trans (Eq.trans (wi_nc _ _ haq) rfl)
      · simp only [if_neg hq3] at h
        simp only [Prod.mk.injEq] at h
        obtain ⟨-, hI, hJ⟩ := h
        exact (congrFun (congrFun hI aq) kq).symm.trans (Eq.trans (wi_nc _ _ haq) rfl)
theorem fjX10_stroke {w : Int} {t : Int} {S : Mi × Mj} {r0 : Int} {I0 : Mi} {J0 : Mj} (h : fX10_stroke w t S = (r0, I0, J0)) (aq kq : Nat) (haq : True) : J0 aq kq = S.2 aq kq := by
  obtain ⟨I, J⟩ := S
  unfold fX10_stroke at h
  try simp only at h
  by_cases hq1 : w < 0
  · simp only [if_pos hq1] at h
    simp only [Prod.mk.injEq] at h
    obtain ⟨-, hI, hJ⟩ := h
    exact (congrFun (congrFun hJ aq) kq).symm.trans rfl
  · simp only [if_neg hq1] at h
    by_cases hq2 : (gi I 59 112) ≤ w
    · simp only [if_pos hq2] at h
      simp only [Prod.mk.injEq] at h
      obtain ⟨-, hI, hJ⟩ := h
      exact (congrFun (congrFun hJ aq) kq).symm.trans rfl
    · simp only [if_neg hq2] at h
      by_cases hq3 : 0 ≤ t ∧ t ≤ 6
      · simp only [if_pos hq3] at h
        by_cases hq4 : 6 ≤ t
        · simp only [if_pos hq4] at h
          simp only [Prod.mk.injEq] at h
          obtain ⟨-, hI, hJ⟩ := h
          exact (congrFun (congrFun hJ aq) kq).symm.trans rfl
        · simp only [if_neg hq4] at h
          simp only [Prod.mk.injEq] at h
          obtain ⟨-, hI, hJ⟩ := h
          exact (congrFun (congrFun hJ aq) kq).symm.trans rfl
      · simp only [if_neg hq3] at h
        simp only [Prod.mk.injEq] at h
        obtain ⟨-, hI, hJ⟩ := h
        exact (congrFun (congrFun hJ aq) kq).symm.trans rfl
set_option maxHeartbeats 4000000 in
set_option maxRecDepth 100000 in
theorem qX10_stroke {G : Gx} {σ : State} (hC : Cz G σ) {sh : Sh} {I : Mi} {J : Mj} (w t : Int) (hS : St sh) (hn : NX (I 59)) (hy : NY (I 59)) (rw : -2147483648 ≤ w ∧ w < 2147483648) (rt : -2147483648 ≤ t ∧ t < 2147483648) : Ce G σ 3 yX10_stroke cX10_stroke 3 (some .int) [.ref (G.2.2 + 57), .int (iv (w)), .int (iv (t))] (sh, I, J) 0 0 (some (.int (iv ((fX10_stroke w t (I, J)).1)))) (sh, (fX10_stroke w t (I, J)).2.1, (fX10_stroke w t (I, J)).2.2) := by
  refine Ct.of hC (by decide +kernel) (Nat.le_of_ble_eq_true rfl) ?_
  intro p l e R s m args below meth c C
  show Jz G σ p l e R s m args below meth c 3 0 0 (Qx (some (.int (iv ((fX10_stroke w t (I, J)).1)))) (sh, (fX10_stroke w t (I, J)).2.1, (fX10_stroke w t (I, J)).2.2)) (sh, I, J) 0 0 0 [(0, .ref (G.2.2 + 57)), (1, .int (iv (w))), (2, .int (iv (t)))] []
  refine z_iload_n C dX10_stroke_0 1 rfl ?_
  refine z_if_lt 25 C dX10_stroke_1 (by decide) (by omega) (fun h1 => ?_) (fun h1 => ?_)
  ·
    refine z_aload_n C dX10_stroke_25 0 rfl ?_
    refine z_cVi (st := []) C dX10_stroke_26 mX10_246 (kd_57 hS) (qX10_refuse hC  hS) rfl rfl (Nat.le_of_ble_eq_true rfl) (by decide) ?_
    have hf2 : fX10_stroke w t (I, J) = (0, (wi I 57 0 1), J) := (by simp only [fX10_stroke, if_pos h1])
    exact z_ireturnx C dX10_stroke_29 (by rw [hf2]) (by rw [hf2])
  ·
    have b112 := nx_s hn
    refine z_iload_n C dX10_stroke_4 1 rfl ?_
    refine z_aload_n C dX10_stroke_5 0 rfl ?_
    refine z_getR C dX10_stroke_6 fX10_13 rfl (kd_57 hS) (r_57_14 hS) ?_
    refine z_bipush C dX10_stroke_9 (by decide) ?_
    refine z_iald (q := 112) C dX10_stroke_11 (ka_59 hS) rfl (by decide) ?_
    refine z_icmp_ge 25 C dX10_stroke_12 (by decide) (by omega) (gi_rng _ _ _) (fun h3 => ?_) (fun h3 => ?_)
    ·
      refine z_aload_n C dX10_stroke_25 0 rfl ?_
      refine z_cVi (st := []) C dX10_stroke_26 mX10_246 (kd_57 hS) (qX10_refuse hC  hS) rfl rfl (Nat.le_of_ble_eq_true rfl) (by decide) ?_
      have hf4 : fX10_stroke w t (I, J) = (0, (wi I 57 0 1), J) := (by simp only [fX10_stroke, if_neg h1, if_pos h3])
      exact z_ireturnx C dX10_stroke_29 (by rw [hf4]) (by rw [hf4])
    ·
      refine z_iload_n C dX10_stroke_15 2 rfl ?_
      refine z_iconst C dX10_stroke_16 ?_
      refine z_bipush C dX10_stroke_17 (by decide) ?_
      refine z_cSi (st := []) C dX10_stroke_19 mX10_154 (qX10_isIn hC t 0 6 rt (by omega) (by omega)) rfl rfl (Nat.le_of_ble_eq_true rfl) (by decide) ?_
      refine z_if_ne_b 30 C dX10_stroke_22 (by decide) (fun h5 => ?_) (fun h5 => ?_)
      ·
        refine z_aload_n C dX10_stroke_30 0 rfl ?_
        refine z_iconst C dX10_stroke_31 ?_
        refine z_putI C dX10_stroke_32 fX10_83 rfl rfl (kd_57 hS) rfl rfl ?_
        refine z_iload_n C dX10_stroke_35 2 rfl ?_
        refine z_bipush C dX10_stroke_36 (by decide) ?_
        refine z_icmp_ge 59 C dX10_stroke_38 (by decide) (by omega) (by decide) (fun h6 => ?_) (fun h6 => ?_)
        ·
          have hsc := ny_sc hy (q := w) (by omega) (by omega)
          refine z_aload_n C dX10_stroke_59 0 rfl ?_
          refine z_iload_n C dX10_stroke_60 1 rfl ?_
          refine z_cVi (st := []) C dX10_stroke_61 mX10_338 (kd_57 hS) (qX10_isShown hC w hS (h59 (P := NX) (wi_ne _ _ _ (by decide)) hn) (by have : gi (wi I 57 0 0) 59 112 = gi I 59 112 := (gi_wi_na _ _ _ _ (by decide)); have := gi_rng I 59 112; have := gi_rng (wi I 57 0 0) 59 112; omega) (by have : gi (wi I 57 0 0) 59 (1400 + 6 * w).toNat = gi I 59 ((1400 + 6 * w).toNat) := (gi_wi_na _ _ _ _ (by decide)); have := gi_rng I 59 ((1400 + 6 * w).toNat); have : gi (wi I 57 0 0) 59 108 = gi I 59 108 := (gi_wi_na _ _ _ _ (by decide)); have := gi_rng I 59 108; have := gi_rng (wi I 57 0 0) 59 (1400 + 6 * w).toNat; have := gi_rng (wi I 57 0 0) 59 108; omega)) rfl rfl (Nat.le_of_ble_eq_true rfl) (by decide) ?_
          refine z_eqi (gX10_isShown w (I 59)) (by rw [show ((wi I 57 0 0) 59) = (I 59) from (wi_ne _ _ _ (by decide))]) ?_
          have hf7 : fX10_stroke w t (I, J) = (gX10_isShown w (I 59), (wi I 57 0 0), J) := (by simp only [fX10_stroke, if_neg h1, if_neg h3, if_pos h5, if_pos h6])
          exact z_ireturnx C dX10_stroke_64 (by rw [hf7]) (by rw [hf7])
        ·
          refine z_aload_n C dX10_stroke_41 0 rfl ?_
          refine z_getR C dX10_stroke_42 fX10_13 rfl (kd_57 hS) (r_57_14 hS) ?_
          refine z_sipush C dX10_stroke_45 (by decide) ?_
          refine z_bipush C dX10_stroke_48 (by decide) ?_
          refine z_iload_n C dX10_stroke_50 1 rfl ?_
          refine z_imul C dX10_stroke_51 ?_
          refine z_iadd C dX10_stroke_52 ?_
          refine z_iload_n C dX10_stroke_53 2 rfl ?_
          refine z_iadd C dX10_stroke_54 ?_
          refine z_iald (q := ((1400 + (6 * w)) + t).toNat) C dX10_stroke_55 (ka_59 hS) (by omega) (by omega) ?_
          refine z_eqi (gi I 59 (((1400 + (6 * w)) + t).toNat)) (gi_wi_na _ _ _ _ (by decide)) ?_
          refine z_goto 64 C dX10_stroke_56 (by decide) ?_
          have hf8 : fX10_stroke w t (I, J) = (gi I 59 (((1400 + (6 * w)) + t).toNat), (wi I 57 0 0), J) := (by simp only [fX10_stroke, if_neg h1, if_neg h3, if_pos h5, if_neg h6])
          exact z_ireturnx C dX10_stroke_64 (by rw [hf8]) (by rw [hf8])
      ·
        refine z_aload_n C dX10_stroke_25 0 rfl ?_
        refine z_cVi (st := []) C dX10_stroke_26 mX10_246 (kd_57 hS) (qX10_refuse hC  hS) rfl rfl (Nat.le_of_ble_eq_true rfl) (by decide) ?_
        have hf9 : fX10_stroke w t (I, J) = (0, (wi I 57 0 1), J) := (by simp only [fX10_stroke, if_neg h1, if_neg h3, if_neg h5])
        exact z_ireturnx C dX10_stroke_29 (by rw [hf9]) (by rw [hf9])

