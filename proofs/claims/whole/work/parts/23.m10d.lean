noncomputable def fX10_begin (w : Int) (S : Mi × Mj) : Int × Mi × Mj :=
  match S with
  | (I, J) =>
    match fX10_lay ((wi I 57 0 0), J) with
    | (r1, I2, J3) =>
      match fX10_go ((wi (wi (wi (wi (wi I2 57 2 0) 57 3 (gi I 57 2)) 57 4 w) 57 10 0) 57 5 0), J3) with
      | (r6, I7, J8) =>
        (0, I7, J8)
theorem frX10_begin {w : Int} {S : Mi × Mj} {r0 : Int} {I0 : Mi} {J0 : Mj} (h : fX10_begin w S = (r0, I0, J0)) (aq kq : Nat) (haq : ¬ (aq = 57 ∧ kq = 0) ∧ ¬ (aq = 57 ∧ kq = 10) ∧ ¬ (aq = 57 ∧ kq = 2) ∧ ¬ (aq = 57 ∧ kq = 22) ∧ ¬ (aq = 57 ∧ kq = 3) ∧ ¬ (aq = 57 ∧ kq = 4) ∧ ¬ (aq = 57 ∧ kq = 5) ∧ ¬ (aq = 57 ∧ kq = 6) ∧ ¬ (aq = 57 ∧ kq = 7) ∧ ¬ (aq = 57 ∧ kq = 8) ∧ ¬ (aq = 57 ∧ kq = 9) ∧ ¬ (aq = 59 ∧ kq = 110) ∧ ¬ (aq = 59 ∧ kq = 111) ∧ ¬ (aq = 59 ∧ kq = 4) ∧ ¬ (aq = 59 ∧ kq = 5) ∧ ¬ (aq = 59 ∧ kq = 6)) : I0 aq kq = S.1 aq kq := by
  obtain ⟨I, J⟩ := S
  unfold fX10_begin at h
  try simp only at h
  obtain ⟨⟨r1, I2, J3⟩, hq1⟩ : ∃ q, q = fX10_lay ((wi I 57 0 0), J) := ⟨_, rfl⟩
  rw [← hq1] at h; try simp only at h
  obtain ⟨⟨r6, I7, J8⟩, hq2⟩ : ∃ q, q = fX10_go ((wi (wi (wi (wi (wi I2 57 2 0) 57 3 (gi I 57 2)) 57 4 w) 57 10 0) 57 5 0), J3) := ⟨_, rfl⟩
  rw [← hq2] at h; try simp only at h
  simp only [Prod.mk.injEq] at h
  obtain ⟨-, hI, hJ⟩ := h
  exact (congrFun (congrFun hI aq) kq).symm.trans (Eq.trans (frX10_go hq2.symm aq kq ⟨haq.2.2.2.2.2.2.1, haq.2.2.2.2.2.2.2.1, haq.2.2.2.2.2.2.2.2.1, haq.2.2.2.2.2.2.2.2.2.1, haq.2.2.2.2.2.2.2.2.2.2.1⟩) (Eq.trans (wi_nc _ _ haq.2.2.2.2.2.2.1) (Eq.trans (wi_nc _ _ haq.2.1) (Eq.trans (wi_nc _ _ haq.2.2.2.2.2.1) (Eq.trans (wi_nc _ _ haq.2.2.2.2.1) (Eq.trans (wi_nc _ _ haq.2.2.1) (Eq.trans (frX10_lay hq1.symm aq kq ⟨haq.2.2.2.1, haq.2.2.2.2.2.2.2.2.2.2.2.1, haq.2.2.2.2.2.2.2.2.2.2.2.2.1, haq.2.2.2.2.2.2.2.2.2.2.2.2.2.1, haq.2.2.2.2.2.2.2.2.2.2.2.2.2.2.1, haq.2.2.2.2.2.2.2.2.2.2.2.2.2.2.2⟩) (Eq.trans (wi_nc _ _ haq.1) rfl))))))))
theorem fjX10_begin {w : Int} {S : Mi × Mj} {r0 : Int} {I0 : Mi} {J0 : Mj} (h : fX10_begin w S = (r0, I0, J0)) (aq kq : Nat) (haq : ¬ (aq = 57 ∧ kq = 12)) : J0 aq kq = S.2 aq kq := by
  obtain ⟨I, J⟩ := S
  unfold fX10_begin at h
  try simp only at h
  obtain ⟨⟨r1, I2, J3⟩, hq1⟩ : ∃ q, q = fX10_lay ((wi I 57 0 0), J) := ⟨_, rfl⟩
  rw [← hq1] at h; try simp only at h
  obtain ⟨⟨r6, I7, J8⟩, hq2⟩ : ∃ q, q = fX10_go ((wi (wi (wi (wi (wi I2 57 2 0) 57 3 (gi I 57 2)) 57 4 w) 57 10 0) 57 5 0), J3) := ⟨_, rfl⟩
  rw [← hq2] at h; try simp only at h
  simp only [Prod.mk.injEq] at h
  obtain ⟨-, hI, hJ⟩ := h
  exact (congrFun (congrFun hJ aq) kq).symm.trans (Eq.trans (fjX10_go hq2.symm aq kq haq) (Eq.trans (fjX10_lay hq1.symm aq kq trivial) rfl))
theorem okX10_begin {w : Int} {I : Mi} {J : Mj} {r0 : Int} {I0 : Mi} {J0 : Mj} (h : fX10_begin w (I, J) = (r0, I0, J0)) (hl : LX I) (ht : 0 ≤ gi I 57 2 ∧ gi I 57 2 ≤ 740) : LX I0 := by
  unfold fX10_begin at h
  try simp only at h
  have hb0 := hl
  unfold LX at hb0
  obtain ⟨⟨r1, I2, J3⟩, hq1⟩ : ∃ q, q = fX10_lay ((wi I 57 0 0), J) := ⟨_, rfl⟩
  rw [← hq1] at h; try simp only at h
  have hl1 : LX I2 := okX10_lay hq1.symm (by have hb := hl; unfold LX at hb ⊢; have : gi (wi I 57 0 0) 57 3 = gi I 57 3 := (gi_wi_nk _ _ _ (by decide)); have : gi (wi I 57 0 0) 57 5 = gi I 57 5 := (gi_wi_nk _ _ _ (by decide)); have : gi (wi I 57 0 0) 60 0 = gi I 60 0 := (gi_wi_na _ _ _ _ (by decide)); have : gi (wi I 57 0 0) 60 1 = gi I 60 1 := (gi_wi_na _ _ _ _ (by decide)); have : gi (wi I 57 0 0) 59 0 = gi I 59 0 := (gi_wi_na _ _ _ _ (by decide)); have : gi (wi I 57 0 0) 57 24 = gi I 57 24 := (gi_wi_nk _ _ _ (by decide)); omega); have hbhl1 := hl1; unfold LX at hbhl1
  obtain ⟨⟨r6, I7, J8⟩, hq2⟩ : ∃ q, q = fX10_go ((wi (wi (wi (wi (wi I2 57 2 0) 57 3 (gi I 57 2)) 57 4 w) 57 10 0) 57 5 0), J3) := ⟨_, rfl⟩
  rw [← hq2] at h; try simp only at h
  have hl2 : LX I7 := okX10_go hq2.symm (by have hb := hl1; unfold LX at hb ⊢; have : gi (wi (wi (wi (wi (wi I2 57 2 0) 57 3 (gi I 57 2)) 57 4 w) 57 10 0) 57 5 0) 57 3 = gi I 57 2 := (Eq.trans (gi_wi_nk _ _ _ (by decide)) (Eq.trans (gi_wi_nk _ _ _ (by decide)) (Eq.trans (gi_wi_nk _ _ _ (by decide)) (gi_wi_eq (x := gi I 57 2) _ _ _ (gi_rng _ _ _))))); have : gi (wi (wi (wi (wi (wi I2 57 2 0) 57 3 (gi I 57 2)) 57 4 w) 57 10 0) 57 5 0) 57 5 = 0 := (gi_wi_eq (x := 0) _ _ _ (by decide)); have : gi (wi (wi (wi (wi (wi I2 57 2 0) 57 3 (gi I 57 2)) 57 4 w) 57 10 0) 57 5 0) 60 0 = gi I2 60 0 := (Eq.trans (gi_wi_na _ _ _ _ (by decide)) (Eq.trans (gi_wi_na _ _ _ _ (by decide)) (Eq.trans (gi_wi_na _ _ _ _ (by decide)) (Eq.trans (gi_wi_na _ _ _ _ (by decide)) (gi_wi_na _ _ _ _ (by decide)))))); have : gi (wi (wi (wi (wi (wi I2 57 2 0) 57 3 (gi I 57 2)) 57 4 w) 57 10 0) 57 5 0) 60 1 = gi I2 60 1 := (Eq.trans (gi_wi_na _ _ _ _ (by decide)) (Eq.trans (gi_wi_na _ _ _ _ (by decide)) (Eq.trans (gi_wi_na _ _ _ _ (by decide)) (Eq.trans (gi_wi_na _ _ _ _ (by decide)) (gi_wi_na _ _ _ _ (by decide)))))); have : gi (wi (wi (wi (wi (wi I2 57 2 0) 57 3 (gi I 57 2)) 57 4 w) 57 10 0) 57 5 0) 59 0 = gi I2 59 0 := (Eq.trans (gi_wi_na _ _ _ _ (by decide)) (Eq.trans (gi_wi_na _ _ _ _ (by decide)) (Eq.trans (gi_wi_na _ _ _ _ (by decide)) (Eq.trans (gi_wi_na _ _ _ _ (by decide)) (gi_wi_na _ _ _ _ (by decide)))))); have : gi (wi (wi (wi (wi (wi I2 57 2 0) 57 3 (gi I 57 2)) 57 4 w) 57 10 0) 57 5 0) 57 24 = gi I2 57 24 := (Eq.trans (gi_wi_nk _ _ _ (by decide)) (Eq.trans (gi_wi_nk _ _ _ (by decide)) (Eq.trans (gi_wi_nk _ _ _ (by decide)) (Eq.trans (gi_wi_nk _ _ _ (by decide)) (gi_wi_nk _ _ _ (by decide)))))); omega); have hbhl2 := hl2; unfold LX at hbhl2
  simp only [Prod.mk.injEq] at h
  obtain ⟨-, hI, hJ⟩ := h
  rw [← hI]
  exact hl2
set_option maxHeartbeats 4000000 in
set_option maxRecDepth 100000 in
theorem qX10_begin {G : Gx} {σ : State} (hC : Cz G σ) {sh : Sh} {I : Mi} {J : Mj} (w : Int) (hS : St sh) (hl : LX I) (rw : -2147483648 ≤ w ∧ w < 2147483648) (ht : 0 ≤ gi I 57 2 ∧ gi I 57 2 ≤ 740) : Ce G σ 3 yX10_begin cX10_begin 2 none [.ref (G.2.2 + 57), .int (iv (w))] (sh, I, J) 0 0 none (sh, (fX10_begin w (I, J)).2.1, (fX10_begin w (I, J)).2.2) := by
  refine Ct.of hC (by decide +kernel) (Nat.le_of_ble_eq_true rfl) ?_
  intro p l e R s m args below meth c C
  show Jz G σ p l e R s m args below meth c 2 0 0 (Qx none (sh, (fX10_begin w (I, J)).2.1, (fX10_begin w (I, J)).2.2)) (sh, I, J) 0 0 0 [(0, .ref (G.2.2 + 57)), (1, .int (iv (w)))] []
  have hb0 := hl
  unfold LX at hb0
  refine z_aload_n C dX10_begin_0 0 rfl ?_
  refine z_iconst C dX10_begin_1 ?_
  refine z_putI C dX10_begin_2 fX10_83 rfl rfl (kd_57 hS) rfl rfl ?_
  refine z_aload_n C dX10_begin_5 0 rfl ?_
  refine z_cVvF (st := []) (F := fX10_lay ((wi I 57 0 0), J)) C dX10_begin_6 mX10_167 (kd_57 hS) (qX10_lay hC  hS) rfl rfl (Nat.le_of_ble_eq_true rfl) (by decide) (fun r1 I2 J3 hT4 => ?_)
  have hl5 : LX I2 := okX10_lay hT4 (by have hb := hl; unfold LX at hb ⊢; have : gi (wi I 57 0 0) 57 3 = gi I 57 3 := (gi_wi_nk _ _ _ (by decide)); have : gi (wi I 57 0 0) 57 5 = gi I 57 5 := (gi_wi_nk _ _ _ (by decide)); have : gi (wi I 57 0 0) 60 0 = gi I 60 0 := (gi_wi_na _ _ _ _ (by decide)); have : gi (wi I 57 0 0) 60 1 = gi I 60 1 := (gi_wi_na _ _ _ _ (by decide)); have : gi (wi I 57 0 0) 59 0 = gi I 59 0 := (gi_wi_na _ _ _ _ (by decide)); have : gi (wi I 57 0 0) 57 24 = gi I 57 24 := (gi_wi_nk _ _ _ (by decide)); omega); have hbhl5 := hl5; unfold LX at hbhl5
  refine z_aload_n C dX10_begin_9 0 rfl ?_
  refine z_aload_n C dX10_begin_10 0 rfl ?_
  refine z_cVi (st := [.ref (G.2.2 + 57)]) C dX10_begin_11 mX10_170 (kd_57 hS) (qX10_take hC  hS) rfl rfl (Nat.le_of_ble_eq_true rfl) (by decide) ?_
  refine z_eqi (gi I 57 2) (by rw [show gi I2 57 2 = gi I 57 2 from (Eq.trans (gi_fk (frX10_lay hT4 57 2 (by decide))) (gi_wi_nk _ _ _ (by decide)))]) ?_
  refine z_putI C dX10_begin_14 fX10_93 rfl rfl (kd_57 hS) rfl rfl ?_
  refine z_aload_n C dX10_begin_17 0 rfl ?_
  refine z_iload_n C dX10_begin_18 1 rfl ?_
  refine z_putI C dX10_begin_19 fX10_102 rfl rfl (kd_57 hS) rfl rfl ?_
  refine z_aload_n C dX10_begin_22 0 rfl ?_
  refine z_iconst C dX10_begin_23 ?_
  refine z_putI C dX10_begin_24 fX10_145 rfl rfl (kd_57 hS) rfl rfl ?_
  refine z_aload_n C dX10_begin_27 0 rfl ?_
  refine z_iconst C dX10_begin_28 ?_
  refine z_putI C dX10_begin_29 fX10_96 rfl rfl (kd_57 hS) rfl rfl ?_
  refine z_aload_n C dX10_begin_32 0 rfl ?_
  refine z_cVvF (st := []) (F := fX10_go ((wi (wi (wi (wi (wi I2 57 2 0) 57 3 (gi I 57 2)) 57 4 w) 57 10 0) 57 5 0), J3)) C dX10_begin_33 mX10_161 (kd_57 hS) (qX10_go hC  hS (by have hb := hl5; unfold LX at hb ⊢; have : gi (wi (wi (wi (wi (wi I2 57 2 0) 57 3 (gi I 57 2)) 57 4 w) 57 10 0) 57 5 0) 57 3 = gi I 57 2 := (Eq.trans (gi_wi_nk _ _ _ (by decide)) (Eq.trans (gi_wi_nk _ _ _ (by decide)) (Eq.trans (gi_wi_nk _ _ _ (by decide)) (gi_wi_eq (x := gi I 57 2) _ _ _ (gi_rng _ _ _))))); have : gi (wi (wi (wi (wi (wi I2 57 2 0) 57 3 (gi I 57 2)) 57 4 w) 57 10 0) 57 5 0) 57 5 = 0 := (gi_wi_eq (x := 0) _ _ _ (by decide)); have : gi (wi (wi (wi (wi (wi I2 57 2 0) 57 3 (gi I 57 2)) 57 4 w) 57 10 0) 57 5 0) 60 0 = gi I2 60 0 := (Eq.trans (gi_wi_na _ _ _ _ (by decide)) (Eq.trans (gi_wi_na _ _ _ _ (by decide)) (Eq.trans (gi_wi_na _ _ _ _ (by decide)) (Eq.trans (gi_wi_na _ _ _ _ (by decide)) (gi_wi_na _ _ _ _ (by decide)))))); have : gi (wi (wi (wi (wi (wi I2 57 2 0) 57 3 (gi I 57 2)) 57 4 w) 57 10 0) 57 5 0) 60 1 = gi I2 60 1 := (Eq.trans (gi_wi_na _ _ _ _ (by decide)) (Eq.trans (gi_wi_na _ _ _ _ (by decide)) (Eq.trans (gi_wi_na _ _ _ _ (by decide)) (Eq.trans (gi_wi_na _ _ _ _ (by decide)) (gi_wi_na _ _ _ _ (by decide)))))); have : gi (wi (wi (wi (wi (wi I2 57 2 0) 57 3 (gi I 57 2)) 57 4 w) 57 10 0) 57 5 0) 59 0 = gi I2 59 0 := (Eq.trans (gi_wi_na _ _ _ _ (by decide)) (Eq.trans (gi_wi_na _ _ _ _ (by decide)) (Eq.trans (gi_wi_na _ _ _ _ (by decide)) (Eq.trans (gi_wi_na _ _ _ _ (by decide)) (gi_wi_na _ _ _ _ (by decide)))))); have : gi (wi (wi (wi (wi (wi I2 57 2 0) 57 3 (gi I 57 2)) 57 4 w) 57 10 0) 57 5 0) 57 24 = gi I2 57 24 := (Eq.trans (gi_wi_nk _ _ _ (by decide)) (Eq.trans (gi_wi_nk _ _ _ (by decide)) (Eq.trans (gi_wi_nk _ _ _ (by decide)) (Eq.trans (gi_wi_nk _ _ _ (by decide)) (gi_wi_nk _ _ _ (by decide)))))); omega)) rfl rfl (Nat.le_of_ble_eq_true rfl) (by decide) (fun r6 I7 J8 hT9 => ?_)
  have hl10 : LX I7 := okX10_go hT9 (by have hb := hl5; unfold LX at hb ⊢; have : gi (wi (wi (wi (wi (wi I2 57 2 0) 57 3 (gi I 57 2)) 57 4 w) 57 10 0) 57 5 0) 57 3 = gi I 57 2 := (Eq.trans (gi_wi_nk _ _ _ (by decide)) (Eq.trans (gi_wi_nk _ _ _ (by decide)) (Eq.trans (gi_wi_nk _ _ _ (by decide)) (gi_wi_eq (x := gi I 57 2) _ _ _ (gi_rng _ _ _))))); have : gi (wi (wi (wi (wi (wi I2 57 2 0) 57 3 (gi I 57 2)) 57 4 w) 57 10 0) 57 5 0) 57 5 = 0 := (gi_wi_eq (x := 0) _ _ _ (by decide)); have : gi (wi (wi (wi (wi (wi I2 57 2 0) 57 3 (gi I 57 2)) 57 4 w) 57 10 0) 57 5 0) 60 0 = gi I2 60 0 := (Eq.trans (gi_wi_na _ _ _ _ (by decide)) (Eq.trans (gi_wi_na _ _ _ _ (by decide)) (Eq.trans (gi_wi_na _ _ _ _ (by decide)) (Eq.trans (gi_wi_na _ _ _ _ (by decide)) (gi_wi_na _ _ _ _ (by decide)))))); have : gi (wi (wi (wi (wi (wi I2 57 2 0) 57 3 (gi I 57 2)) 57 4 w) 57 10 0) 57 5 0) 60 1 = gi I2 60 1 := (Eq.trans (gi_wi_na _ _ _ _ (by decide)) (Eq.trans (gi_wi_na _ _ _ _ (by decide)) (Eq.trans (gi_wi_na _ _ _ _ (by decide)) (Eq.trans (gi_wi_na _ _ _ _ (by decide)) (gi_wi_na _ _ _ _ (by decide)))))); have : gi (wi (wi (wi (wi (wi I2 57 2 0) 57 3 (gi I 57 2)) 57 4 w) 57 10 0) 57 5 0) 59 0 = gi I2 59 0 := (Eq.trans (gi_wi_na _ _ _ _ (by decide)) (Eq.trans (gi_wi_na _ _ _ _ (by decide)) (Eq.trans (gi_wi_na _ _ _ _ (by decide)) (Eq.trans (gi_wi_na _ _ _ _ (by decide)) (gi_wi_na _ _ _ _ (by decide)))))); have : gi (wi (wi (wi (wi (wi I2 57 2 0) 57 3 (gi I 57 2)) 57 4 w) 57 10 0) 57 5 0) 57 24 = gi I2 57 24 := (Eq.trans (gi_wi_nk _ _ _ (by decide)) (Eq.trans (gi_wi_nk _ _ _ (by decide)) (Eq.trans (gi_wi_nk _ _ _ (by decide)) (Eq.trans (gi_wi_nk _ _ _ (by decide)) (gi_wi_nk _ _ _ (by decide)))))); omega); have hbhl10 := hl10; unfold LX at hbhl10
  have hf11 : fX10_begin w (I, J) = (0, I7, J8) := (by simp only [fX10_begin, hT4, hT9])
  exact z_returnx C dX10_begin_36 (by rw [hf11])

noncomputable def fX10_readNew_52 (w : Int) (S : Mi × Mj) : Bool × Mi × Mj :=
  match S with
  | (I, J) =>
    match fX10_bad 3 (I, J) with
    | (r4, I5, J6) =>
      (decide (r4 = true), I5, J6)
theorem frX10_readNew_52 {w : Int} {S : Mi × Mj} {r0 : Bool} {I0 : Mi} {J0 : Mj} (h : fX10_readNew_52 w S = (r0, I0, J0)) (aq kq : Nat) (haq : ¬ (aq = 57 ∧ kq = 10) ∧ ¬ (aq = 57 ∧ kq = 11) ∧ ¬ (aq = 57 ∧ kq = 5) ∧ ¬ (aq = 57 ∧ kq = 6) ∧ ¬ (aq = 57 ∧ kq = 7) ∧ ¬ (aq = 57 ∧ kq = 8) ∧ ¬ (aq = 57 ∧ kq = 9)) : I0 aq kq = S.1 aq kq := by
  obtain ⟨I, J⟩ := S
  unfold fX10_readNew_52 at h
  try simp only at h
  obtain ⟨⟨r4, I5, J6⟩, hq1⟩ : ∃ q, q = fX10_bad 3 (I, J) := ⟨_, rfl⟩
  rw [← hq1] at h; try simp only at h
  simp only [Prod.mk.injEq] at h
  obtain ⟨-, hI, hJ⟩ := h
  exact (congrFun (congrFun hI aq) kq).symm.trans (Eq.trans (frX10_bad hq1.symm aq kq ⟨haq.1, haq.2.1⟩) rfl)
theorem fjX10_readNew_52 {w : Int} {S : Mi × Mj} {r0 : Bool} {I0 : Mi} {J0 : Mj} (h : fX10_readNew_52 w S = (r0, I0, J0)) (aq kq : Nat) (haq : aq ≠ 64 ∧ ¬ (aq = 57 ∧ kq = 12)) : J0 aq kq = S.2 aq kq := by
  obtain ⟨I, J⟩ := S
  unfold fX10_readNew_52 at h
  try simp only at h
  obtain ⟨⟨r4, I5, J6⟩, hq1⟩ : ∃ q, q = fX10_bad 3 (I, J) := ⟨_, rfl⟩
  rw [← hq1] at h; try simp only at h
  simp only [Prod.mk.injEq] at h
  obtain ⟨-, hI, hJ⟩ := h
  exact (congrFun (congrFun hJ aq) kq).symm.trans (Eq.trans (fjX10_bad hq1.symm aq kq trivial) rfl)
noncomputable def fX10_readNew (w : Int) (S : Mi × Mj) : Bool × Mi × Mj :=
  match S with
  | (I, J) =>
    if gi I 57 7 = 2 ∧ isNm (gj J 57 12) = true then
      if (fd J 64 0 (gi I 60 0)) = (-1) then
        if (fd J 64 8 (gi I 60 1)) = (-1) then
          match fX10_go (I, (wj J 64 ((w).toNat) (gj J 57 12))) with
          | (r12, I13, J14) =>
            (true, I13, J14)
        else
          fX10_readNew_52 w (I, J)
      else
        fX10_readNew_52 w (I, J)
    else
      match fX10_bad 1 (I, J) with
      | (r18, I19, J20) =>
        (decide (r18 = true), I19, J20)
theorem frX10_readNew {w : Int} {S : Mi × Mj} {r0 : Bool} {I0 : Mi} {J0 : Mj} (h : fX10_readNew w S = (r0, I0, J0)) (aq kq : Nat) (haq : ¬ (aq = 57 ∧ kq = 10) ∧ ¬ (aq = 57 ∧ kq = 11) ∧ ¬ (aq = 57 ∧ kq = 5) ∧ ¬ (aq = 57 ∧ kq = 6) ∧ ¬ (aq = 57 ∧ kq = 7) ∧ ¬ (aq = 57 ∧ kq = 8) ∧ ¬ (aq = 57 ∧ kq = 9)) : I0 aq kq = S.1 aq kq := by
  obtain ⟨I, J⟩ := S
  unfold fX10_readNew at h
  try simp only at h
  by_cases hq1 : gi I 57 7 = 2 ∧ isNm (gj J 57 12) = true
  · simp only [if_pos hq1] at h
    by_cases hq2 : (fd J 64 0 (gi I 60 0)) = (-1)
    · simp only [if_pos hq2] at h
      by_cases hq3 : (fd J 64 8 (gi I 60 1)) = (-1)
      · simp only [if_pos hq3] at h
        obtain ⟨⟨r12, I13, J14⟩, hq4⟩ : ∃ q, q = fX10_go (I, (wj J 64 ((w).toNat) (gj J 57 12))) := ⟨_, rfl⟩
        rw [← hq4] at h; try simp only at h
        simp only [Prod.mk.injEq] at h
        obtain ⟨-, hI, hJ⟩ := h
        exact (congrFun (congrFun hI aq) kq).symm.trans (Eq.trans (frX10_go hq4.symm aq kq ⟨haq.2.2.1, haq.2.2.2.1, haq.2.2.2.2.1, haq.2.2.2.2.2.1, haq.2.2.2.2.2.2⟩) rfl)
      · simp only [if_neg hq3] at h
        exact frX10_readNew_52 h aq kq haq
    · simp only [if_neg hq2] at h
      exact frX10_readNew_52 h aq kq haq
  · simp only [if_neg hq1] at h
    obtain ⟨⟨r18, I19, J20⟩, hq5⟩ : ∃ q, q = fX10_bad 1 (I, J) := ⟨_, rfl⟩
    rw [← hq5] at h; try simp only at h
    simp only [Prod.mk.injEq] at h
    obtain ⟨-, hI, hJ⟩ := h
    exact (congrFun (congrFun hI aq) kq).symm.trans (Eq.trans (frX10_bad hq5.symm aq kq ⟨haq.1, haq.2.1⟩) rfl)
theorem fjX10_readNew {w : Int} {S : Mi × Mj} {r0 : Bool} {I0 : Mi} {J0 : Mj} (h : fX10_readNew w S = (r0, I0, J0)) (aq kq : Nat) (haq : aq ≠ 64 ∧ ¬ (aq = 57 ∧ kq = 12)) : J0 aq kq = S.2 aq kq := by
  obtain ⟨I, J⟩ := S
  unfold fX10_readNew at h
  try simp only at h
  by_cases hq1 : gi I 57 7 = 2 ∧ isNm (gj J 57 12) = true
  · simp only [if_pos hq1] at h
    by_cases hq2 : (fd J 64 0 (gi I 60 0)) = (-1)
    · simp only [if_pos hq2] at h
      by_cases hq3 : (fd J 64 8 (gi I 60 1)) = (-1)
      · simp only [if_pos hq3] at h
        obtain ⟨⟨r12, I13, J14⟩, hq4⟩ : ∃ q, q = fX10_go (I, (wj J 64 ((w).toNat) (gj J 57 12))) := ⟨_, rfl⟩
        rw [← hq4] at h; try simp only at h
        simp only [Prod.mk.injEq] at h
        obtain ⟨-, hI, hJ⟩ := h
        exact (congrFun (congrFun hJ aq) kq).symm.trans (Eq.trans (fjX10_go hq4.symm aq kq haq.2) (Eq.trans (wj_nc _ _ (fun q => haq.1 q.1)) rfl))
      · simp only [if_neg hq3] at h
        exact fjX10_readNew_52 h aq kq haq
    · simp only [if_neg hq2] at h
      exact fjX10_readNew_52 h aq kq haq
  · simp only [if_neg hq1] at h
    obtain ⟨⟨r18, I19, J20⟩, hq5⟩ : ∃ q, q = fX10_bad 1 (I, J) := ⟨_, rfl⟩
    rw [← hq5] at h; try simp only at h
    simp only [Prod.mk.injEq] at h
    obtain ⟨-, hI, hJ⟩ := h
    exact (congrFun (congrFun hJ aq) kq).symm.trans (Eq.trans (fjX10_bad hq5.symm aq kq trivial) rfl)
theorem okX10_readNew_52 {w : Int} {I : Mi} {J : Mj} {r0 : Bool} {I0 : Mi} {J0 : Mj} (h : fX10_readNew_52 w (I, J) = (r0, I0, J0)) (hl : LX I) : LX I0 := by
  unfold fX10_readNew_52 at h
  try simp only at h
  have hb0 := hl
  unfold LX at hb0
  obtain ⟨⟨r4, I5, J6⟩, hq1⟩ : ∃ q, q = fX10_bad 3 (I, J) := ⟨_, rfl⟩
  rw [← hq1] at h; try simp only at h
  have hl1 : LX I5 := okX10_bad hq1.symm hl; have hbhl1 := hl1; unfold LX at hbhl1
  simp only [Prod.mk.injEq] at h
  obtain ⟨-, hI, hJ⟩ := h
  rw [← hI]
  exact hl1
theorem okX10_readNew {w : Int} {I : Mi} {J : Mj} {r0 : Bool} {I0 : Mi} {J0 : Mj} (h : fX10_readNew w (I, J) = (r0, I0, J0)) (hl : LX I) : LX I0 := by
  unfold fX10_readNew at h
  try simp only at h
  have hb0 := hl
  unfold LX at hb0
  by_cases hq1 : gi I 57 7 = 2 ∧ isNm (gj J 57 12) = true
  · simp only [if_pos hq1] at h
    by_cases hq2 : (fd J 64 0 (gi I 60 0)) = (-1)
    · simp only [if_pos hq2] at h
      by_cases hq3 : (fd J 64 8 (gi I 60 1)) = (-1)
      · simp only [if_pos hq3] at h
        obtain ⟨⟨r12, I13, J14⟩, hq4⟩ : ∃ q, q = fX10_go (I, (wj J 64 ((w).toNat) (gj J 57 12))) := ⟨_, rfl⟩
        rw [← hq4] at h; try simp only at h
        have hl4 : LX I13 := okX10_go hq4.symm hl; have hbhl4 := hl4; unfold LX at hbhl4
        simp only [Prod.mk.injEq] at h
        obtain ⟨-, hI, hJ⟩ := h
        rw [← hI]
        exact hl4
      · simp only [if_neg hq3] at h
        exact okX10_readNew_52 h hl
    · simp only [if_neg hq2] at h
      exact okX10_readNew_52 h hl
  · simp only [if_neg hq1] at h
    obtain ⟨⟨r18, I19, J20⟩, hq5⟩ : ∃ q, q = fX10_bad 1 (I, J) := ⟨_, rfl⟩
    rw [← hq5] at h; try simp only at h
    have hl5 : LX I19 := okX10_bad hq5.symm hl; have hbhl5 := hl5; unfold LX at hbhl5
    simp only [Prod.mk.injEq] at h
    obtain ⟨-, hI, hJ⟩ := h
    rw [← hI]
    exact hl5
set_option maxHeartbeats 4000000 in
set_option maxRecDepth 100000 in
theorem qX10_readNew {G : Gx} {σ : State} (hC : Cz G σ) {sh : Sh} {I : Mi} {J : Mj} (w : Int) (hS : St sh) (hl : LX I) (hs : 0 ≤ w ∧ w < 12) : Ce G σ 4 yX10_readNew cX10_readNew 2 (some .boolean) [.ref (G.2.2 + 57), .int (iv (w))] (sh, I, J) 0 0 (some (.int (iv (b2 ((fX10_readNew w (I, J)).1 = true))))) (sh, (fX10_readNew w (I, J)).2.1, (fX10_readNew w (I, J)).2.2) := by
  refine Ct.of hC (by decide +kernel) (Nat.le_of_ble_eq_true rfl) ?_
  intro p l e R s m args below meth c C
  show Jz G σ p l e R s m args below meth c 2 0 0 (Qx (some (.int (iv (b2 ((fX10_readNew w (I, J)).1 = true))))) (sh, (fX10_readNew w (I, J)).2.1, (fX10_readNew w (I, J)).2.2)) (sh, I, J) 0 0 0 [(0, .ref (G.2.2 + 57)), (1, .int (iv (w)))] []
  have hb0 := hl
  unfold LX at hb0
  refine z_aload_n C dX10_readNew_0 0 rfl ?_
  refine z_cVi (st := []) C dX10_readNew_1 mX10_191 (kd_57 hS) (qX10_isName hC  hS) rfl rfl (Nat.le_of_ble_eq_true rfl) (by decide) ?_
  refine z_if_ne_b 13 C dX10_readNew_4 (by decide) (fun h1 => ?_) (fun h1 => ?_)
  ·
    have hJ2 : fX10_readNew w (I, J) = fX10_readNew_52 w (I, J) → Jz G σ p l e R s m args below meth c 2 0 0 (Qx (some (.int (iv (b2 ((fX10_readNew w (I, J)).1 = true))))) (sh, (fX10_readNew w (I, J)).2.1, (fX10_readNew w (I, J)).2.2)) (sh, I, J) 0 0 52 [(0, .ref (G.2.2 + 57)), (1, .int (iv (w)))] [] := by
      intro hq3
      refine z_aload_n C dX10_readNew_52 0 rfl ?_
      refine z_iconst C dX10_readNew_53 ?_
      refine z_cVibF (st := []) (F := fX10_bad 3 (I, J)) C dX10_readNew_54 mX10_151 (kd_57 hS) (qX10_bad hC 3 hS (by omega)) rfl rfl (Nat.le_of_ble_eq_true rfl) (by decide) (fun r4 I5 J6 hT7 => ?_)
      have hl8 : LX I5 := okX10_bad hT7 hl; have hbhl8 := hl8; unfold LX at hbhl8
      have hf9 : fX10_readNew w (I, J) = (decide (r4 = true), I5, J6) := (hq3.trans (by simp only [fX10_readNew_52, hT7]))
      exact z_zreturnx C dX10_readNew_57 (b2_nar _) (by rw [hf9]; simp [b2]) (by rw [hf9])
    refine z_aload_n C dX10_readNew_13 0 rfl ?_
    refine z_aload_n C dX10_readNew_14 0 rfl ?_
    refine z_getR C dX10_readNew_15 fX10_30 rfl (kd_57 hS) (r_57_19 hS) ?_
    refine z_iconst C dX10_readNew_18 ?_
    refine z_aload_n C dX10_readNew_19 0 rfl ?_
    refine z_getR C dX10_readNew_20 fX10_16 rfl (kd_57 hS) (r_57_15 hS) ?_
    refine z_iconst C dX10_readNew_23 ?_
    refine z_iald (q := 0) C dX10_readNew_24 (ka_60 hS) rfl (by decide) ?_
    refine z_cVi (st := []) C dX10_readNew_25 mX10_195 (kd_57 hS) (qX10_findIn64 hC 0 (gi I 60 0) hS (by have := gi_rng I 60 0; omega)) rfl rfl (Nat.le_of_ble_eq_true rfl) (by decide) ?_
    refine z_iconst C dX10_readNew_28 ?_
    refine z_icmp_ne 52 C dX10_readNew_29 (by decide) (fd_rng _ _ _ _) (by decide) (fun h10 => ?_) (fun h10 => ?_)
    ·
      exact hJ2 (by simp only [fX10_readNew, if_pos h1, if_neg h10])
    ·
      refine z_aload_n C dX10_readNew_32 0 rfl ?_
      refine z_aload_n C dX10_readNew_33 0 rfl ?_
      refine z_getR C dX10_readNew_34 fX10_30 rfl (kd_57 hS) (r_57_19 hS) ?_
      refine z_bipush C dX10_readNew_37 (by decide) ?_
      refine z_aload_n C dX10_readNew_39 0 rfl ?_
      refine z_getR C dX10_readNew_40 fX10_16 rfl (kd_57 hS) (r_57_15 hS) ?_
      refine z_iconst C dX10_readNew_43 ?_
      refine z_iald (q := 1) C dX10_readNew_44 (ka_60 hS) rfl (by decide) ?_
      refine z_cVi (st := []) C dX10_readNew_45 mX10_195 (kd_57 hS) (qX10_findIn64 hC 8 (gi I 60 1) hS (by have := gi_rng I 60 1; omega)) rfl rfl (Nat.le_of_ble_eq_true rfl) (by decide) ?_
      refine z_iconst C dX10_readNew_48 ?_
      refine z_icmp_eq 58 C dX10_readNew_49 (by decide) (fd_rng _ _ _ _) (by decide) (fun h11 => ?_) (fun h11 => ?_)
      ·
        refine z_aload_n C dX10_readNew_58 0 rfl ?_
        refine z_getR C dX10_readNew_59 fX10_30 rfl (kd_57 hS) (r_57_19 hS) ?_
        refine z_iload_n C dX10_readNew_62 1 rfl ?_
        refine z_aload_n C dX10_readNew_63 0 rfl ?_
        refine z_getJ C dX10_readNew_64 fX10_118 rfl (kd_57 hS) ?_
        refine z_last (q := (w).toNat) C dX10_readNew_67 (ka_64 hS) (by omega) (by omega) ?_
        refine z_aload_n C dX10_readNew_68 0 rfl ?_
        refine z_cVvF (st := []) (F := fX10_go (I, (wj J 64 ((w).toNat) (gj J 57 12)))) C dX10_readNew_69 mX10_161 (kd_57 hS) (qX10_go hC  hS hl) rfl rfl (Nat.le_of_ble_eq_true rfl) (by decide) (fun r12 I13 J14 hT15 => ?_)
        have hl16 : LX I13 := okX10_go hT15 hl; have hbhl16 := hl16; unfold LX at hbhl16
        refine z_iconst C dX10_readNew_72 ?_
        have hf17 : fX10_readNew w (I, J) = (true, I13, J14) := (by simp only [fX10_readNew, if_pos h1, if_pos h10, if_pos h11, hT15])
        exact z_zreturnx C dX10_readNew_73 rfl (by rw [hf17]; rfl) (by rw [hf17])
      ·
        exact hJ2 (by simp only [fX10_readNew, if_pos h1, if_pos h10, if_neg h11])
  ·
    refine z_aload_n C dX10_readNew_7 0 rfl ?_
    refine z_iconst C dX10_readNew_8 ?_
    refine z_cVibF (st := []) (F := fX10_bad 1 (I, J)) C dX10_readNew_9 mX10_151 (kd_57 hS) (qX10_bad hC 1 hS (by omega)) rfl rfl (Nat.le_of_ble_eq_true rfl) (by decide) (fun r18 I19 J20 hT21 => ?_)
    have hl22 : LX I19 := okX10_bad hT21 hl; have hbhl22 := hl22; unfold LX at hbhl22
    have hf23 : fX10_readNew w (I, J) = (decide (r18 = true), I19, J20) := (by simp only [fX10_readNew, if_neg h1, hT21])
    exact z_zreturnx C dX10_readNew_12 (b2_nar _) (by rw [hf23]; simp [b2]) (by rw [hf23])

noncomputable def fX10_readWho (S : Mi × Mj) : Bool × Mi × Mj :=
  match S with
  | (I, J) =>
    if (gi I 60 0) = 8 then
      match fX10_bad 4 (I, J) with
      | (r42, I43, J44) =>
        (decide (r42 = true), I43, J44)
    else
      match fX10_go (I, J) with
      | (r2, I3, J4) =>
        match fX10_readNew (gi I 60 0) (I3, J4) with
        | (r7, I8, J9) =>
          if r7 = true then
            if gi I8 57 7 = 2 ∧ gj J9 57 12 = wt 1 then
              match fX10_go ((wi I8 60 (((8 + (3 * (gi I 60 0))) + 0).toNat) 1), J9) with
              | (r26, I27, J28) =>
                if gi I27 57 7 = 2 ∧ gj J28 57 12 = wt 2 then
                  match fX10_go ((wi I27 60 (((8 + (3 * (gi I 60 0))) + 1).toNat) 1), J28) with
                  | (r35, I36, J37) =>
                    (true, (wi I36 60 0 ((gi I 60 0) + 1)), J37)
                else
                  (true, (wi (wi I27 60 (((8 + (3 * (gi I 60 0))) + 1).toNat) 0) 60 0 ((gi I 60 0) + 1)), J28)
            else
              if gi I8 57 7 = 2 ∧ gj J9 57 12 = wt 2 then
                match fX10_go ((wi (wi I8 60 (((8 + (3 * (gi I 60 0))) + 0).toNat) 0) 60 (((8 + (3 * (gi I 60 0))) + 1).toNat) 1), J9) with
                | (r19, I20, J21) =>
                  (true, (wi I20 60 0 ((gi I 60 0) + 1)), J21)
              else
                (true, (wi (wi (wi I8 60 (((8 + (3 * (gi I 60 0))) + 0).toNat) 0) 60 (((8 + (3 * (gi I 60 0))) + 1).toNat) 0) 60 0 ((gi I 60 0) + 1)), J9)
          else
            (false, I8, J9)
theorem frX10_readWho {S : Mi × Mj} {r0 : Bool} {I0 : Mi} {J0 : Mj} (h : fX10_readWho  S = (r0, I0, J0)) (aq kq : Nat) (haq : aq ≠ 60 ∧ ¬ (aq = 57 ∧ kq = 10) ∧ ¬ (aq = 57 ∧ kq = 11) ∧ ¬ (aq = 57 ∧ kq = 5) ∧ ¬ (aq = 57 ∧ kq = 6) ∧ ¬ (aq = 57 ∧ kq = 7) ∧ ¬ (aq = 57 ∧ kq = 8) ∧ ¬ (aq = 57 ∧ kq = 9)) : I0 aq kq = S.1 aq kq := by
  obtain ⟨I, J⟩ := S
  unfold fX10_readWho at h
  try simp only at h
  by_cases hq1 : (gi I 60 0) = 8
  · simp only [if_pos hq1] at h
    obtain ⟨⟨r42, I43, J44⟩, hq2⟩ : ∃ q, q = fX10_bad 4 (I, J) := ⟨_, rfl⟩
    rw [← hq2] at h; try simp only at h
    simp only [Prod.mk.injEq] at h
    obtain ⟨-, hI, hJ⟩ := h
    exact (congrFun (congrFun hI aq) kq).symm.trans (Eq.trans (frX10_bad hq2.symm aq kq ⟨haq.2.1, haq.2.2.1⟩) rfl)
  · simp only [if_neg hq1] at h
    obtain ⟨⟨r2, I3, J4⟩, hq3⟩ : ∃ q, q = fX10_go (I, J) := ⟨_, rfl⟩
    rw [← hq3] at h; try simp only at h
    obtain ⟨⟨r7, I8, J9⟩, hq4⟩ : ∃ q, q = fX10_readNew (gi I 60 0) (I3, J4) := ⟨_, rfl⟩
    rw [← hq4] at h; try simp only at h
    by_cases hq5 : r7 = true
    · simp only [if_pos hq5] at h
      by_cases hq6 : gi I8 57 7 = 2 ∧ gj J9 57 12 = wt 1
      · simp only [if_pos hq6] at h
        obtain ⟨⟨r26, I27, J28⟩, hq7⟩ : ∃ q, q = fX10_go ((wi I8 60 (((8 + (3 * (gi I 60 0))) + 0).toNat) 1), J9) := ⟨_, rfl⟩
        rw [← hq7] at h; try simp only at h
        by_cases hq8 : gi I27 57 7 = 2 ∧ gj J28 57 12 = wt 2
        · simp only [if_pos hq8] at h
          obtain ⟨⟨r35, I36, J37⟩, hq9⟩ : ∃ q, q = fX10_go ((wi I27 60 (((8 + (3 * (gi I 60 0))) + 1).toNat) 1), J28) := ⟨_, rfl⟩
          rw [← hq9] at h; try simp only at h
          simp only [Prod.mk.injEq] at h
          obtain ⟨-, hI, hJ⟩ := h
          exact (congrFun (congrFun hI aq) kq).symm.trans (Eq.trans (wi_nc _ _ (fun q => haq.1 q.1)) (Eq.trans (frX10_go hq9.symm aq kq ⟨haq.2.2.2.1, haq.2.2.2.2.1, haq.2.2.2.2.2.1, haq.2.2.2.2.2.2.1, haq.2.2.2.2.2.2.2⟩) (Eq.trans (wi_nc _ _ (fun q => haq.1 q.1)) (Eq.trans (frX10_go hq7.symm aq kq ⟨haq.2.2.2.1, haq.2.2.2.2.1, haq.2.2.2.2.2.1, haq.2.2.2.2.2.2.1, haq.2.2.2.2.2.2.2⟩) (Eq.trans (wi_nc _ _ (fun q => haq.1 q.1)) (Eq.trans (frX10_readNew hq4.symm aq kq ⟨haq.2.1, haq.2.2.1, haq.2.2.2.1, haq.2.2.2.2.1, haq.2.2.2.2.2.1, haq.2.2.2.2.2.2.1, haq.2.2.2.2.2.2.2⟩) (Eq.trans (frX10_go hq3.symm aq kq ⟨haq.2.2.2.1, haq.2.2.2.2.1, haq.2.2.2.2.2.1, haq.2.2.2.2.2.2.1, haq.2.2.2.2.2.2.2⟩) rfl)))))))
        · simp only [if_neg hq8] at h
          simp only [Prod.mk.injEq] at h
          obtain ⟨-, hI, hJ⟩ := h
          exact (congrFun (congrFun hI aq) kq).symm.trans (Eq.trans (wi_nc _ _ (fun q => haq.1 q.1)) (Eq.trans (wi_nc _ _ (fun q => haq.1 q.1)) (Eq.trans (frX10_go hq7.symm aq kq ⟨haq.2.2.2.1, haq.2.2.2.2.1, haq.2.2.2.2.2.1, haq.2.2.2.2.2.2.1, haq.2.2.2.2.2.2.2⟩) (Eq.trans (wi_nc _ _ (fun q => haq.1 q.1)) (Eq.trans (frX10_readNew hq4.symm aq kq ⟨haq.2.1, haq.2.2.1, haq.2.2.2.1, haq.2.2.2.2.1, haq.2.2.2.2.2.1, haq.2.2.2.2.2.2.1, haq.2.2.2.2.2.2.2⟩) (Eq.trans (frX10_go hq3.symm aq kq ⟨haq.2.2.2.1, haq.2.2.2.2.1, haq.2.2.2.2.2.1, haq.2.2.2.2.2.2.1, haq.2.2.2.2.2.2.2⟩) rfl))))))
      · simp only [if_neg hq6] at h
        by_cases hq10 : gi I8 57 7 = 2 ∧ gj J9 57 12 = wt 2
        · simp only [if_pos hq10] at h
          obtain ⟨⟨r19, I20, J21⟩, hq11⟩ : ∃ q, q = fX10_go ((wi (wi I8 60 (((8 + (3 * (gi I 60 0))) + 0).toNat) 0) 60 (((8 + (3 * (gi I 60 0))) + 1).toNat) 1), J9) := ⟨_, rfl⟩
          rw [← hq11] at h; try simp only at h
          simp only [Prod.mk.injEq] at h
          obtain ⟨-, hI, hJ⟩ := h
          exact (congrFun (congrFun hI aq) kq).symm.trans (Eq.trans (wi_nc _ _ (fun q => haq.1 q.1)) (Eq.trans (frX10_go hq11.symm aq kq ⟨haq.2.2.2.1, haq.2.2.2.2.1, haq.2.2.2.2.2.1, haq.2.2.2.2.2.2.1, haq.2.2.2.2.2.2.2⟩) (Eq.trans (wi_nc _ _ (fun q => haq.1 q.1)) (Eq.trans (wi_nc _ _ (fun q => haq.1 q.1)) (Eq.trans (frX10_readNew hq4.symm aq kq ⟨haq.2.1, haq.2.2.1, haq.2.2.2.1, haq.2.2.2.2.1, haq.2.2.2.2.2.1, haq.2.2.2.2.2.2.1, haq.2.2.2.2.2.2.2⟩) (Eq.trans (frX10_go hq3.symm aq kq ⟨haq.2.2.2.1, haq.2.2.2.2.1, haq.2.2.2.2.2.1, haq.2.2.2.2.2.2.1, haq.2.2.2.2.2.2.2⟩) rfl))))))
        · simp only [if_neg hq10] at h
          simp only [Prod.mk.injEq] at h
          obtain ⟨-, hI, hJ⟩ := h
          exact (congrFun (congrFun hI aq) kq).symm.trans (Eq.trans (wi_nc _ _ (fun q => haq.1 q.1)) (Eq.trans (wi_nc _ _ (fun q => haq.1 q.1)) (Eq.trans (wi_nc _ _ (fun q => haq.1 q.1)) (Eq.trans (frX10_readNew hq4.symm aq kq ⟨haq.2.1, haq.2.2.1, haq.2.2.2.1, haq.2.2.2.2.1, haq.2.2.2.2.2.1, haq.2.2.2.2.2.2.1, haq.2.2.2.2.2.2.2⟩) (Eq.trans (frX10_go hq3.symm aq kq ⟨haq.2.2.2.1, haq.2.2.2.2.1, haq.2.2.2.2.2.1, haq.2.2.2.2.2.2.1, haq.2.2.2.2.2.2.2⟩) rfl)))))
    · simp only [if_neg hq5] at h
      simp only [Prod.mk.injEq] at h
      obtain ⟨-, hI, hJ⟩ := h
      exact (congrFun (congrFun hI aq) kq).symm.trans (Eq.trans (frX10_readNew hq4.symm aq kq ⟨haq.2.1, haq.2.2.1, haq.2.2.2.1, haq.2.2.2.2.1, haq.2.2.2.2.2.1, haq.2.2.2.2.2.2.1, haq.2.2.2.2.2.2.2⟩) (Eq.trans (frX10_go hq3.symm aq kq ⟨haq.2.2.2.1, haq.2.2.2.2.1, haq.2.2.2.2.2.1, haq.2.2.2.2.2.2.1, haq.2.2.2.2.2.2.2⟩) rfl))
theorem fjX10_readWho {S : Mi × Mj} {r0 : Bool} {I0 : Mi} {J0 : Mj} (h : fX10_readWho  S = (r0, I0, J0)) (aq kq : Nat) (haq : aq ≠ 64 ∧ ¬ (aq = 57 ∧ kq = 12)) : J0 aq kq = S.2 aq kq := by
  obtain ⟨I, J⟩ := S
  unfold fX10_readWho at h
  try simp only at h
  by_cases hq1 : (gi I 60 0) = 8
  · simp only [if_pos hq1] at h
    obtain ⟨⟨r42, I43, J44⟩, hq2⟩ : ∃ q, q = fX10_bad 4 (I, J) := ⟨_, rfl⟩
    rw [← hq2] at h; try simp only at h
    simp only [Prod.mk.injEq] at h
    obtain ⟨-, hI, hJ⟩ := h
    exact (congrFun (congrFun hJ aq) kq).symm.trans (Eq.trans (fjX10_bad hq2.symm aq kq trivial) rfl)
  · simp only [if_neg hq1] at h
    obtain ⟨⟨r2, I3, J4⟩, hq3⟩ : ∃ q, q = fX10_go (I, J) := ⟨_, rfl⟩
    rw [← hq3] at h; try simp only at h
    obtain ⟨⟨r7, I8, J9⟩, hq4⟩ : ∃ q, q = fX10_readNew (gi I 60 0) (I3, J4) := ⟨_, rfl⟩
    rw [← hq4] at h; try simp only at h
    by_cases hq5 : r7 = true
    · simp only [if_pos hq5] at h
      by_cases hq6 : gi I8 57 7 = 2 ∧ gj J9 57 12 = wt 1
      · simp only [if_pos hq6] at h
        obtain ⟨⟨r26, I27, J28⟩, hq7⟩ : ∃ q, q = fX10_go ((wi I8 60 (((8 + (3 * (gi I 60 0))) + 0).toNat) 1), J9) := ⟨_, rfl⟩
        rw [← hq7] at h; try simp only at h
        by_cases hq8 : gi I27 57 7 = 2 ∧ gj J28 57 12 = wt 2
        · simp only [if_pos hq8] at h
          obtain ⟨⟨r35, I36, J37⟩, hq9⟩ : ∃ q, q = fX10_go ((wi I27 60 (((8 + (3 * (gi I 60 0))) + 1).toNat) 1), J28) := ⟨_, rfl⟩
          rw [← hq9] at h; try simp only at h
          simp only [Prod.mk.injEq] at h
          obtain ⟨-, hI, hJ⟩ := h
          exact (congrFun (congrFun hJ aq) kq).symm.trans (Eq.trans (fjX10_go hq9.symm aq kq haq.2) (Eq.trans (fjX10_go hq7.symm aq kq haq.2) (Eq.trans (fjX10_readNew hq4.symm aq kq ⟨haq.1, haq.2⟩) (Eq.trans (fjX10_go hq3.symm aq kq haq.2) rfl))))
        · simp only [if_neg hq8] at h
          simp only [Prod.mk.injEq] at h
          obtain ⟨-, hI, hJ⟩ := h
          exact (congrFun (congrFun hJ aq) kq).symm.trans (Eq.trans (fjX10_go hq7.symm aq kq haq.2) (Eq.trans (fjX10_readNew hq4.symm aq kq ⟨haq.1, haq.2⟩) (Eq.trans (fjX10_go hq3.symm aq kq haq.2) rfl)))
      · simp only [if_neg hq6] at h
        by_cases hq10 : gi I8 57 7 = 2 ∧ gj J9 57 12 = wt 2
        · simp only [if_pos hq10] at h
          obtain ⟨⟨r19, I20, J21⟩, hq11⟩ : ∃ q, q = fX10_go ((wi (wi I8 60 (((8 + (3 * (gi I 60 0))) + 0).toNat) 0) 60 (((8 + (3 * (gi I 60 0))) + 1).toNat) 1), J9) := ⟨_, rfl⟩
          rw [← hq11] at h; try simp only at h
          simp only [Prod.mk.injEq] at h
          obtain ⟨-, hI, hJ⟩ := h
          exact (congrFun (congrFun hJ aq) kq).symm.trans (Eq.trans (fjX10_go hq11.symm aq kq haq.2) (Eq.trans (fjX10_readNew hq4.symm aq kq ⟨haq.1, haq.2⟩) (Eq.trans (fjX10_go hq3.symm aq kq haq.2) rfl)))
        · simp only [if_neg hq10] at h
          simp only [Prod.mk.injEq] at h
          obtain ⟨-, hI, hJ⟩ := h
          exact (congrFun (congrFun hJ aq) kq).symm.trans (Eq.trans (fjX10_readNew hq4.symm aq kq ⟨haq.1, haq.2⟩) (Eq.trans (fjX10_go hq3.symm aq kq haq.2) rfl))
    · simp only [if_neg hq5] at h
      simp only [Prod.mk.injEq] at h
      obtain ⟨-, hI, hJ⟩ := h
      exact (congrFun (congrFun hJ aq) kq).symm.trans (Eq.trans (fjX10_readNew hq4.symm aq kq ⟨haq.1, haq.2⟩) (Eq.trans (fjX10_go hq3.symm aq kq haq.2) rfl))
theorem okX10_readWho {I : Mi} {J : Mj} {r0 : Bool} {I0 : Mi} {J0 : Mj} (h : fX10_readWho  (I, J) = (r0, I0, J0)) (hl : LX I) : LX I0 := by
  unfold fX10_readWho at h
  try simp only at h
  have hb0 := hl
  unfold LX at hb0
  by_cases hq1 : (gi I 60 0) = 8
  · simp only [if_pos hq1] at h
    obtain ⟨⟨r42, I43, J44⟩, hq2⟩ : ∃ q, q = fX10_bad 4 (I, J) := ⟨_, rfl⟩
    rw [← hq2] at h; try simp only at h
    have hl2 : LX I43 := okX10_bad hq2.symm hl; have hbhl2 := hl2; unfold LX at hbhl2
    simp only [Prod.mk.injEq] at h
    obtain ⟨-, hI, hJ⟩ := h
    rw [← hI]
    exact hl2
  · simp only [if_neg hq1] at h
    obtain ⟨⟨r2, I3, J4⟩, hq3⟩ : ∃ q, q = fX10_go (I, J) := ⟨_, rfl⟩
    rw [← hq3] at h; try simp only at h
    have hl3 : LX I3 := okX10_go hq3.symm hl; have hbhl3 := hl3; unfold LX at hbhl3
    obtain ⟨⟨r7, I8, J9⟩, hq4⟩ : ∃ q, q = fX10_readNew (gi I 60 0) (I3, J4) := ⟨_, rfl⟩
    rw [← hq4] at h; try simp only at h
    have hl4 : LX I8 := okX10_readNew hq4.symm hl3; have hbhl4 := hl4; unfold LX at hbhl4
    by_cases hq5 : r7 = true
    · simp only [if_pos hq5] at h
      by_cases hq6 : gi I8 57 7 = 2 ∧ gj J9 57 12 = wt 1
      · simp only [if_pos hq6] at h
        obtain ⟨⟨r26, I27, J28⟩, hq7⟩ : ∃ q, q = fX10_go ((wi I8 60 (((8 + (3 * (gi I 60 0))) + 0).toNat) 1), J9) := ⟨_, rfl⟩
        rw [← hq7] at h; try simp only at h
        have hl7 : LX I27 := okX10_go hq7.symm (by have hb := hl4; unfold LX at hb ⊢; have : gi (wi I8 60 (((8 + (3 * (gi I 60 0))) + 0).toNat) 1) 57 3 = gi I8 57 3 := (gi_wi_na _ _ _ _ (by decide)); have : gi (wi I8 60 (((8 + (3 * (gi I 60 0))) + 0).toNat) 1) 57 5 = gi I8 57 5 := (gi_wi_na _ _ _ _ (by decide)); have : gi (wi I8 60 (((8 + (3 * (gi I 60 0))) + 0).toNat) 1) 60 0 = gi I8 60 0 := (gi_wi_nk _ _ _ (by omega)); have : gi (wi I8 60 (((8 + (3 * (gi I 60 0))) + 0).toNat) 1) 60 1 = gi I8 60 1 := (gi_wi_nk _ _ _ (by omega)); have : gi (wi I8 60 (((8 + (3 * (gi I 60 0))) + 0).toNat) 1) 59 0 = gi I8 59 0 := (gi_wi_na _ _ _ _ (by decide)); have : gi (wi I8 60 (((8 + (3 * (gi I 60 0))) + 0).toNat) 1) 57 24 = gi I8 57 24 := (gi_wi_na _ _ _ _ (by decide)); omega); have hbhl7 := hl7; unfold LX at hbhl7
        by_cases hq8 : gi I27 57 7 = 2 ∧ gj J28 57 12 = wt 2
        · simp only [if_pos hq8] at h
          obtain ⟨⟨r35, I36, J37⟩, hq9⟩ : ∃ q, q = fX10_go ((wi I27 60 (((8 + (3 * (gi I 60 0))) + 1).toNat) 1), J28) := ⟨_, rfl⟩
          rw [← hq9] at h; try simp only at h
          have hl9 : LX I36 := okX10_go hq9.symm (by have hb := hl7; unfold LX at hb ⊢; have : gi (wi I27 60 (((8 + (3 * (gi I 60 0))) + 1).toNat) 1) 57 3 = gi I27 57 3 := (gi_wi_na _ _ _ _ (by decide)); have : gi (wi I27 60 (((8 + (3 * (gi I 60 0))) + 1).toNat) 1) 57 5 = gi I27 57 5 := (gi_wi_na _ _ _ _ (by decide)); have : gi (wi I27 60 (((8 + (3 * (gi I 60 0))) + 1).toNat) 1) 60 0 = gi I27 60 0 := (gi_wi_nk _ _ _ (by omega)); have : gi (wi I27 60 (((8 + (3 * (gi I 60 0))) + 1).toNat) 1) 60 1 = gi I27 60 1 := (gi_wi_nk _ _ _ (by omega)); have : gi (wi I27 60 (((8 + (3 * (gi I 60 0))) + 1).toNat) 1) 59 0 = gi I27 59 0 := (gi_wi_na _ _ _ _ (by decide)); have : gi (wi I27 60 (((8 + (3 * (gi I 60 0))) + 1).toNat) 1) 57 24 = gi I27 57 24 := (gi_wi_na _ _ _ _ (by decide)); omega); have hbhl9 := hl9; unfold LX at hbhl9
          simp only [Prod.mk.injEq] at h
          obtain ⟨-, hI, hJ⟩ := h
          rw [← hI]
          exact (by have hb := hl9; unfold LX at hb ⊢; have : gi (wi I36 60 0 ((gi I 60 0) + 1)) 57 3 = gi I36 57 3 := (gi_wi_na _ _ _ _ (by decide)); have : gi (wi I36 60 0 ((gi I 60 0) + 1)) 57 5 = gi I36 57 5 := (gi_wi_na _ _ _ _ (by decide)); have : gi (wi I36 60 0 ((gi I 60 0) + 1)) 60 0 = (gi I 60 0) + 1 := (gi_wi_eq (x := (gi I 60 0) + 1) _ _ _ (by have := gi_rng I 60 0; omega)); have : gi (wi I36 60 0 ((gi I 60 0) + 1)) 60 1 = gi I36 60 1 := (gi_wi_nk _ _ _ (by decide)); have : gi (wi I36 60 0 ((gi I 60 0) + 1)) 59 0 = gi I36 59 0 := (gi_wi_na _ _ _ _ (by decide)); have : gi (wi I36 60 0 ((gi I 60 0) + 1)) 57 24 = gi I36 57 24 := (gi_wi_na _ _ _ _ (by decide)); omega)
        · simp only [if_neg hq8] at h
          simp only [Prod.mk.injEq] at h
          obtain ⟨-, hI, hJ⟩ := h
          rw [← hI]
          exact (by have hb := hl7; unfold LX at hb ⊢; have : gi (wi (wi I27 60 (((8 + (3 * (gi I 60 0))) + 1).toNat) 0) 60 0 ((gi I 60 0) + 1)) 57 3 = gi I27 57 3 := (Eq.trans (gi_wi_na _ _ _ _ (by decide)) (gi_wi_na _ _ _ _ (by decide))); have : gi (wi (wi I27 60 (((8 + (3 * (gi I 60 0))) + 1).toNat) 0) 60 0 ((gi I 60 0) + 1)) 57 5 = gi I27 57 5 := (Eq.trans (gi_wi_na _ _ _ _ (by decide)) (gi_wi_na _ _ _ _ (by decide))); have : gi (wi (wi I27 60 (((8 + (3 * (gi I 60 0))) + 1).toNat) 0) 60 0 ((gi I 60 0) + 1)) 60 0 = (gi I 60 0) + 1 := (gi_wi_eq (x := (gi I 60 0) + 1) _ _ _ (by have := gi_rng I 60 0; omega)); have : gi (wi (wi I27 60 (((8 + (3 * (gi I 60 0))) + 1).toNat) 0) 60 0 ((gi I 60 0) + 1)) 60 1 = gi I27 60 1 := (Eq.trans (gi_wi_nk _ _ _ (by decide)) (gi_wi_nk _ _ _ (by omega))); have : gi (wi (wi I27 60 (((8 + (3 * (gi I 60 0))) + 1).toNat) 0) 60 0 ((gi I 60 0) + 1)) 59 0 = gi I27 59 0 := (Eq.trans (gi_wi_na _ _ _ _ (by decide)) (gi_wi_na _ _ _ _ (by decide))); have : gi (wi (wi I27 60 (((8 + (3 * (gi I 60 0))) + 1).toNat) 0) 60 0 ((gi I 60 0) + 1)) 57 24 = gi I27 57 24 := (Eq.trans (gi_wi_na _ _ _ _ (by decide)) (gi_wi_na _ _ _ _ (by decide))); omega)
      · simp only [if_neg hq6] at h
        by_cases hq10 : gi I8 57 7 = 2 ∧ gj J9 57 12 = wt 2
        · simp only [if_pos hq10] at h
          obtain ⟨⟨r19, I20, J21⟩, hq11⟩ : ∃ q, q = fX10_go ((wi (wi I8 60 (((8 + (3 * (gi I 60 0))) + 0).toNat) 0) 60 (((8 + (3 * (gi I 60 0))) + 1).toNat) 1), J9) := ⟨_, rfl⟩
          rw [← hq11] at h; try simp only at h
          have hl11 : LX I20 := okX10_go hq11.symm (by have hb := hl4; unfold LX at hb ⊢; have : gi (wi (wi I8 60 (((8 + (3 * (gi I 60 0))) + 0).toNat) 0) 60 (((8 + (3 * (gi I 60 0))) + 1).toNat) 1) 57 3 = gi I8 57 3 := (Eq.trans (gi_wi_na _ _ _ _ (by decide)) (gi_wi_na _ _ _ _ (by decide))); have : gi (wi (wi I8 60 (((8 + (3 * (gi I 60 0))) + 0).toNat) 0) 60 (((8 + (3 * (gi I 60 0))) + 1).toNat) 1) 57 5 = gi I8 57 5 := (Eq.trans (gi_wi_na _ _ _ _ (by decide)) (gi_wi_na _ _ _ _ (by decide))); have : gi (wi (wi I8 60 (((8 + (3 * (gi I 60 0))) + 0).toNat) 0) 60 (((8 + (3 * (gi I 60 0))) + 1).toNat) 1) 60 0 = gi I8 60 0 := (Eq.trans (gi_wi_nk _ _ _ (by omega)) (gi_wi_nk _ _ _ (by omega))); have : gi (wi (wi I8 60 (((8 + (3 * (gi I 60 0))) + 0).toNat) 0) 60 (((8 + (3 * (gi I 60 0))) + 1).toNat) 1) 60 1 = gi I8 60 1 := (Eq.trans (gi_wi_nk _ _ _ (by omega)) (gi_wi_nk _ _ _ (by omega))); have : gi (wi (wi I8 60 (((8 + (3 * (gi I 60 0))) + 0).toNat) 0) 60 (((8 + (3 * (gi I 60 0))) + 1).toNat) 1) 59 0 = gi I8 59 0 := (Eq.trans (gi_wi_na _ _ _ _ (by decide)) (gi_wi_na _ _ _ _ (by decide))); have : gi (wi (wi I8 60 (((8 + (3 * (gi I 60 0))) + 0).toNat) 0) 60 (((8 + (3 * (gi I 60 0))) + 1).toNat) 1) 57 24 = gi I8 57 24 := (Eq.trans (gi_wi_na _ _ _ _ (by decide)) (gi_wi_na _ _ _ _ (by decide))); omega); have hbhl11 := hl11; unfold LX at hbhl11
          simp only [Prod.mk.injEq] at h
          obtain ⟨-, hI, hJ⟩ := h
          rw [← hI]
          exact (by have hb := hl11; unfold LX at hb ⊢; have : gi (wi I20 60 0 ((gi I 60 0) + 1)) 57 3 = gi I20 57 3 := (gi_wi_na _ _ _ _ (by decide)); have : gi (wi I20 60 0 ((gi I 60 0) + 1)) 57 5 = gi I20 57 5 := (gi_wi_na _ _ _ _ (by decide)); have : gi (wi I20 60 0 ((gi I 60 0) + 1)) 60 0 = (gi I 60 0) + 1 := (gi_wi_eq (x := (gi I 60 0) + 1) _ _ _ (by have := gi_rng I 60 0; omega)); have : gi (wi I20 60 0 ((gi I 60 0) + 1)) 60 1 = gi I20 60 1 := (gi_wi_nk _ _ _ (by decide)); have : gi (wi I20 60 0 ((gi I 60 0) + 1)) 59 0 = gi I20 59 0 := (gi_wi_na _ _ _ _ (by decide)); have : gi (wi I20 60 0 ((gi I 60 0) + 1)) 57 24 = gi I20 57 24 := (gi_wi_na _ _ _ _ (by decide)); omega)
        · simp only [if_neg hq10] at h
          simp only [Prod.mk.injEq] at h
          obtain ⟨-, hI, hJ⟩ := h
          rw [← hI]
          exact (by have hb := hl4; unfold LX at hb ⊢; have : gi (wi (wi (wi I8 60 (((8 + (3 * (gi I 60 0))) + 0).toNat) 0) 60 (((8 + (3 * (gi I 60 0))) + 1).toNat) 0) 60 0 ((gi I 60 0) + 1)) 57 3 = gi I8 57 3 := (Eq.trans (gi_wi_na _ _ _ _ (by decide)) (Eq.trans (gi_wi_na _ _ _ _ (by decide)) (gi_wi_na _ _ _ _ (by decide)))); have : gi (wi (wi (wi I8 60 (((8 + (3 * (gi I 60 0))) + 0).toNat) 0) 60 (((8 + (3 * (gi I 60 0))) + 1).toNat) 0) 60 0 ((gi I 60 0) + 1)) 57 5 = gi I8 57 5 := (Eq.trans (gi_wi_na _ _ _ _ (by decide)) (Eq.trans (gi_wi_na _ _ _ _ (by decide)) (gi_wi_na _ _ _ _ (by decide)))); have : gi (wi (wi (wi I8 60 (((8 + (3 * (gi I 60 0))) + 0).toNat) 0) 60 (((8 + (3 * (gi I 60 0))) + 1).toNat) 0) 60 0 ((gi I 60 0) + 1)) 60 0 = (gi I 60 0) + 1 := (gi_wi_eq (x := (gi I 60 0) + 1) _ _ _ (by have := gi_rng I 60 0; omega)); have : gi (wi (wi (wi I8 60 (((8 + (3 * (gi I 60 0))) + 0).toNat) 0) 60 (((8 + (3 * (gi I 60 0))) + 1).toNat) 0) 60 0 ((gi I 60 0) + 1)) 60 1 = gi I8 60 1 := (Eq.trans (gi_wi_nk _ _ _ (by decide)) (Eq.trans (gi_wi_nk _ _ _ (by omega)) (gi_wi_nk _ _ _ (by omega)))); have : gi (wi (wi (wi I8 60 (((8 + (3 * (gi I 60 0))) + 0).toNat) 0) 60 (((8 + (3 * (gi I 60 0))) + 1).toNat) 0) 60 0 ((gi I 60 0) + 1)) 59 0 = gi I8 59 0 := (Eq.trans (gi_wi_na _ _ _ _ (by decide)) (Eq.trans (gi_wi_na _ _ _ _ (by decide)) (gi_wi_na _ _ _ _ (by decide)))); have : gi (wi (wi (wi I8 60 (((8 + (3 * (gi I 60 0))) + 0).toNat) 0) 60 (((8 + (3 * (gi I 60 0))) + 1).toNat) 0) 60 0 ((gi I 60 0) + 1)) 57 24 = gi I8 57 24 := (Eq.trans (gi_wi_na _ _ _ _ (by decide)) (Eq.trans (gi_wi_na _ _ _ _ (by decide)) (gi_wi_na _ _ _ _ (by decide)))); omega)
    · simp only [if_neg hq5] at h
      simp only [Prod.mk.injEq] at h
      obtain ⟨-, hI, hJ⟩ := h
      rw [← hI]
      exact hl4
set_option maxHeartbeats 4000000 in
set_option maxRecDepth 100000 in
theorem qX10_readWho {G : Gx} {σ : State} (hC : Cz G σ) {sh : Sh} {I : Mi} {J : Mj}  (hS : St sh) (hl : LX I) : Ce G σ 5 yX10_readWho cX10_readWho 2 (some .boolean) [.ref (G.2.2 + 57)] (sh, I, J) 0 0 (some (.int (iv (b2 ((fX10_readWho (I, J)).1 = true))))) (sh, (fX10_readWho (I, J)).2.1, (fX10_readWho (I, J)).2.2) := by
  refine Ct.of hC (by decide +kernel) (Nat.le_of_ble_eq_true rfl) ?_
  intro p l e R s m args below meth c C
  show Jz G σ p l e R s m args below meth c 2 0 0 (Qx (some (.int (iv (b2 ((fX10_readWho (I, J)).1 = true))))) (sh, (fX10_readWho (I, J)).2.1, (fX10_readWho (I, J)).2.2)) (sh, I, J) 0 0 0 [(0, .ref (G.2.2 + 57))] []
  have hb0 := hl
  unfold LX at hb0
  refine z_aload_n C dX10_readWho_0 0 rfl ?_
  refine z_getR C dX10_readWho_1 fX10_16 rfl (kd_57 hS) (r_57_15 hS) ?_
  refine z_iconst C dX10_readWho_4 ?_
  refine z_iald (q := 0) C dX10_readWho_5 (ka_60 hS) rfl (by decide) ?_
  refine z_istore_n (lv' := [(0, .ref (G.2.2 + 57)), (1, .int (iv (gi I 60 0)))]) C dX10_readWho_6 rfl (by decide) [1, 0] rfl ?_
  refine z_iload_n C dX10_readWho_7 1 rfl ?_
  refine z_bipush C dX10_readWho_8 (by decide) ?_
  refine z_icmp_ne 19 C dX10_readWho_10 (by decide) (gi_rng _ _ _) (by decide) (fun h1 => ?_) (fun h1 => ?_)
  ·
    refine z_aload_n C dX10_readWho_19 0 rfl ?_
    refine z_cVvF (st := []) (F := fX10_go (I, J)) C dX10_readWho_20 mX10_161 (kd_57 hS) (qX10_go hC  hS hl) rfl rfl (Nat.le_of_ble_eq_true rfl) (by decide) (fun r2 I3 J4 hT5 => ?_)
    have hl6 : LX I3 := okX10_go hT5 hl; have hbhl6 := hl6; unfold LX at hbhl6
    refine z_aload_n C dX10_readWho_23 0 rfl ?_
    refine z_iload_n C dX10_readWho_24 1 rfl ?_
    refine z_cVibF (st := []) (F := fX10_readNew (gi I 60 0) (I3, J4)) C dX10_readWho_25 mX10_199 (kd_57 hS) (qX10_readNew hC (gi I 60 0) hS hl6 (by have := gi_rng I 60 0; omega)) rfl rfl (Nat.le_of_ble_eq_true rfl) (by decide) (fun r7 I8 J9 hT10 => ?_)
    have hl11 : LX I8 := okX10_readNew hT10 hl6; have hbhl11 := hl11; unfold LX at hbhl11
    refine z_if_ne_b 33 C dX10_readWho_28 (by decide) (fun h12 => ?_) (fun h12 => ?_)
    ·
      refine z_aload_n C dX10_readWho_33 0 rfl ?_
      refine z_getR C dX10_readWho_34 fX10_16 rfl (kd_57 hS) (r_57_15 hS) ?_
      refine z_bipush C dX10_readWho_37 (by decide) ?_
      refine z_iconst C dX10_readWho_39 ?_
      refine z_iload_n C dX10_readWho_40 1 rfl ?_
      refine z_imul C dX10_readWho_41 ?_
      refine z_iadd C dX10_readWho_42 ?_
      refine z_iconst C dX10_readWho_43 ?_
      refine z_iadd C dX10_readWho_44 ?_
      refine z_aload_n C dX10_readWho_45 0 rfl ?_
      refine z_iconst C dX10_readWho_46 ?_
      refine z_cVi (st := [.int (iv ((8 + (3 * (gi I 60 0))) + 0)), .ref (G.2.2 + 60)]) C dX10_readWho_47 mX10_202 (kd_57 hS) (qX10_isWord hC 1 hS (by omega)) rfl rfl (Nat.le_of_ble_eq_true rfl) (by decide) ?_
      refine z_if_eq_b 57 C dX10_readWho_50 (by decide) (fun h13 => ?_) (fun h13 => ?_)
      ·
        refine z_iconst C dX10_readWho_57 ?_
        refine z_iast (q := ((8 + (3 * (gi I 60 0))) + 0).toNat) C dX10_readWho_58 (ka_60 hS) (by omega) (by omega) ?_
        refine z_aload_n C dX10_readWho_59 0 rfl ?_
        refine z_iconst C dX10_readWho_60 ?_
        refine z_cVi (st := []) C dX10_readWho_61 mX10_202 (kd_57 hS) (qX10_isWord hC 1 hS (by omega)) rfl rfl (Nat.le_of_ble_eq_true rfl) (by decide) ?_
        refine z_eqi (b2 (gi I8 57 7 = 2 ∧ gj J9 57 12 = wt 1)) (b2_iff (by rw [show gi (wi I8 60 (((8 + (3 * (gi I 60 0))) + 0).toNat) 0) 57 7 = gi I8 57 7 from (gi_wi_na _ _ _ _ (by decide))])) ?_
        refine z_if_eq_b 71 C dX10_readWho_64 (by decide) (fun h14 => ?_) (fun h14 => absurd h14 h13)
        refine z_aload_n C dX10_readWho_71 0 rfl ?_
        refine z_getR C dX10_readWho_72 fX10_16 rfl (kd_57 hS) (r_57_15 hS) ?_
        refine z_bipush C dX10_readWho_75 (by decide) ?_
        refine z_iconst C dX10_readWho_77 ?_
        refine z_iload_n C dX10_readWho_78 1 rfl ?_
        refine z_imul C dX10_readWho_79 ?_
        refine z_iadd C dX10_readWho_80 ?_
        refine z_iconst C dX10_readWho_81 ?_
        refine z_iadd C dX10_readWho_82 ?_
        refine z_aload_n C dX10_readWho_83 0 rfl ?_
        refine z_iconst C dX10_readWho_84 ?_
        refine z_cVi (st := [.int (iv ((8 + (3 * (gi I 60 0))) + 1)), .ref (G.2.2 + 60)]) C dX10_readWho_85 mX10_202 (kd_57 hS) (qX10_isWord hC 2 hS (by omega)) rfl rfl (Nat.le_of_ble_eq_true rfl) (by decide) ?_
        refine z_eqi (b2 (gi I8 57 7 = 2 ∧ gj J9 57 12 = wt 2)) (b2_iff (by rw [show gi (wi I8 60 (((8 + (3 * (gi I 60 0))) + 0).toNat) 0) 57 7 = gi I8 57 7 from (gi_wi_na _ _ _ _ (by decide))])) ?_
        refine z_if_eq_b 95 C dX10_readWho_88 (by decide) (fun h15 => ?_) (fun h15 => ?_)
        ·
          refine z_iconst C dX10_readWho_95 ?_
          refine z_iast (q := ((8 + (3 * (gi I 60 0))) + 1).toNat) C dX10_readWho_96 (ka_60 hS) (by omega) (by omega) ?_
          refine z_aload_n C dX10_readWho_97 0 rfl ?_
          refine z_iconst C dX10_readWho_98 ?_
          refine z_cVi (st := []) C dX10_readWho_99 mX10_202 (kd_57 hS) (qX10_isWord hC 2 hS (by omega)) rfl rfl (Nat.le_of_ble_eq_true rfl) (by decide) ?_
          refine z_eqi (b2 (gi I8 57 7 = 2 ∧ gj J9 57 12 = wt 2)) (b2_iff (by rw [show gi (wi (wi I8 60 (((8 + (3 * (gi I 60 0))) + 0).toNat) 0) 60 (((8 + (3 * (gi I 60 0))) + 1).toNat) 0) 57 7 = gi I8 57 7 from (Eq.trans (gi_wi_na _ _ _ _ (by decide)) (gi_wi_na _ _ _ _ (by decide)))])) ?_
          refine z_if_eq_b 109 C dX10_readWho_102 (by decide) (fun h16 => ?_) (fun h16 => absurd h16 h15)
          refine z_aload_n C dX10_readWho_109 0 rfl ?_
          refine z_getR C dX10_readWho_110 fX10_16 rfl (kd_57 hS) (r_57_15 hS) ?_
          refine z_iconst C dX10_readWho_113 ?_
          refine z_dup2 C dX10_readWho_114 rfl rfl ?_
          refine z_iald (q := 0) C dX10_readWho_115 (ka_60 hS) rfl (by decide) ?_
          refine z_eqi (gi I 60 0) (Eq.trans (gi_wi_nk _ _ _ (by omega)) (Eq.trans (gi_wi_nk _ _ _ (by omega)) (Eq.trans (gi_fk (frX10_readNew hT10 60 0 (by decide))) (gi_fk (frX10_go hT5 60 0 (by decide)))))) ?_
          refine z_iconst C dX10_readWho_116 ?_
          refine z_iadd C dX10_readWho_117 ?_
          refine z_iast (q := 0) C dX10_readWho_118 (ka_60 hS) rfl (by decide) ?_
          refine z_iconst C dX10_readWho_119 ?_
          have hf17 : fX10_readWho (I, J) = (true, (wi (wi (wi I8 60 (((8 + (3 * (gi I 60 0))) + 0).toNat) 0) 60 (((8 + (3 * (gi I 60 0))) + 1).toNat) 0) 60 0 ((gi I 60 0) + 1)), J9) := (by simp only [fX10_readWho, if_neg h1, hT5, hT10, if_pos h12, if_neg h13, if_neg h15])
          exact z_zreturnx C dX10_readWho_120 rfl (by rw [hf17]; rfl) (by rw [hf17])
        ·
          refine z_iconst C dX10_readWho_91 ?_
          refine z_goto 96 C dX10_readWho_92 (by decide) ?_
          refine z_iast (q := ((8 + (3 * (gi I 60 0))) + 1).toNat) C dX10_readWho_96 (ka_60 hS) (by omega) (by omega) ?_
          refine z_aload_n C dX10_readWho_97 0 rfl ?_
          refine z_iconst C dX10_readWho_98 ?_
          refine z_cVi (st := []) C dX10_readWho_99 mX10_202 (kd_57 hS) (qX10_isWord hC 2 hS (by omega)) rfl rfl (Nat.le_of_ble_eq_true rfl) (by decide) ?_
          refine z_eqi (b2 (gi I8 57 7 = 2 ∧ gj J9 57 12 = wt 2)) (b2_iff (by rw [show gi (wi (wi I8 60 (((8 + (3 * (gi I 60 0))) + 0).toNat) 0) 60 (((8 + (3 * (gi I 60 0))) + 1).toNat) 1) 57 7 = gi I8 57 7 from (Eq.trans (gi_wi_na _ _ _ _ (by decide)) (gi_wi_na _ _ _ _ (by decide)))])) ?_
          refine z_if_eq_b 109 C dX10_readWho_102 (by decide) (fun h18 => absurd h15 h18) (fun h18 => ?_)
          refine z_aload_n C dX10_readWho_105 0 rfl ?_
          refine z_cVvF (st := []) (F := fX10_go ((wi (wi I8 60 (((8 + (3 * (gi I 60 0))) + 0).toNat) 0) 60 (((8 + (3 * (gi I 60 0))) + 1).toNat) 1), J9)) C dX10_readWho_106 mX10_161 (kd_57 hS) (qX10_go hC  hS (by have hb := hl11; unfold LX at hb ⊢; have : gi (wi (wi I8 60 (((8 + (3 * (gi I 60 0))) + 0).toNat) 0) 60 (((8 + (3 * (gi I 60 0))) + 1).toNat) 1) 57 3 = gi I8 57 3 := (Eq.trans (gi_wi_na _ _ _ _ (by decide)) (gi_wi_na _ _ _ _ (by decide))); have : gi (wi (wi I8 60 (((8 + (3 * (gi I 60 0))) + 0).toNat) 0) 60 (((8 + (3 * (gi I 60 0))) + 1).toNat) 1) 57 5 = gi I8 57 5 := (Eq.trans (gi_wi_na _ _ _ _ (by decide)) (gi_wi_na _ _ _ _ (by decide))); have : gi (wi (wi I8 60 (((8 + (3 * (gi I 60 0))) + 0).toNat) 0) 60 (((8 + (3 * (gi I 60 0))) + 1).toNat) 1) 60 0 = gi I8 60 0 := (Eq.trans (gi_wi_nk _ _ _ (by omega)) (gi_wi_nk _ _ _ (by omega))); have : gi (wi (wi I8 60 (((8 + (3 * (gi I 60 0))) + 0).toNat) 0) 60 (((8 + (3 * (gi I 60 0))) + 1).toNat) 1) 60 1 = gi I8 60 1 := (Eq.trans (gi_wi_nk _ _ _ (by omega)) (gi_wi_nk _ _ _ (by omega))); have : gi (wi (wi I8 60 (((8 + (3 * (gi I 60 0))) + 0).toNat) 0) 60 (((8 + (3 * (gi I 60 0))) + 1).toNat) 1) 59 0 = gi I8 59 0 := (Eq.trans (gi_wi_na _ _ _ _ (by decide)) (gi_wi_na _ _ _ _ (by decide))); have : gi (wi (wi I8 60 (((8 + (3 * (gi I 60 0))) + 0).toNat) 0) 60 (((8 + (3 * (gi I 60 0))) + 1).toNat) 1) 57 24 = gi I8 57 24 := (Eq.trans (gi_wi_na _ _ _ _ (by decide)) (gi_wi_na _ _ _ _ (by decide))); omega)) rfl rfl (Nat.le_of_ble_eq_true rfl) (by decide) (fun r19 I20 J21 hT22 => ?_)
          have hl23 : LX I20 := okX10_go hT22 (by have hb := hl11; unfold LX at hb ⊢; have : gi (wi (wi I8 60 (((8 + (3 * (gi I 60 0))) + 0).toNat) 0) 60 (((8 + (3 * (gi I 60 0))) + 1).toNat) 1) 57 3 = gi I8 57 3 := (Eq.trans (gi_wi_na _ _ _ _ (by decide)) (gi_wi_na _ _ _ _ (by decide))); have : gi (wi (wi I8 60 (((8 + (3 * (gi I 60 0))) + 0).toNat) 0) 60 (((8 + (3 * (gi I 60 0))) + 1).toNat) 1) 57 5 = gi I8 57 5 := (Eq.trans (gi_wi_na _ _ _ _ (by decide)) (gi_wi_na _ _ _ _ (by decide))); have : gi (wi (wi I8 60 (((8 + (3 * (gi I 60 0))) + 0).toNat) 0) 60 (((8 + (3 * (gi I 60 0))) + 1).toNat) 1) 60 0 = gi I8 60 0 := (Eq.trans (gi_wi_nk _ _ _ (by omega)) (gi_wi_nk _ _ _ (by omega))); have : gi (wi (wi I8 60 (((8 + (3 * (gi I 60 0))) + 0).toNat) 0) 60 (((8 + (3 * (gi I 60 0))) + 1).toNat) 1) 60 1 = gi I8 60 1 := (Eq.trans (gi_wi_nk _ _ _ (by omega)) (gi_wi_nk _ _ _ (by omega))); have : gi (wi (wi I8 60 (((8 + (3 * (gi I 60 0))) + 0).toNat) 0) 60 (((8 + (3 * (gi I 60 0))) + 1).toNat) 1) 59 0 = gi I8 59 0 := (Eq.trans (gi_wi_na _ _ _ _ (by decide)) (gi_wi_na _ _ _ _ (by decide))); have : gi (wi (wi I8 60 (((8 + (3 * (gi I 60 0))) + 0).toNat) 0) 60 (((8 + (3 * (gi I 60 0))) + 1).toNat) 1) 57 24 = gi I8 57 24 := (Eq.trans (gi_wi_na _ _ _ _ (by decide)) (gi_wi_na _ _ _ _ (by decide))); omega); have hbhl23 := hl23; unfold LX at hbhl23
          refine z_aload_n C dX10_readWho_109 0 rfl ?_
          refine z_getR C dX10_readWho_110 fX10_16 rfl (kd_57 hS) (r_57_15 hS) ?_
          refine z_iconst C dX10_readWho_113 ?_
          refine z_dup2 C dX10_readWho_114 rfl rfl ?_
          refine z_iald (q := 0) C dX10_readWho_115 (ka_60 hS) rfl (by decide) ?_
          refine z_eqi (gi I 60 0) (Eq.trans (gi_fk (frX10_go hT22 60 0 (by decide))) (Eq.trans (gi_wi_nk _ _ _ (by omega)) (Eq.trans (gi_wi_nk _ _ _ (by omega)) (Eq.trans (gi_fk (frX10_readNew hT10 60 0 (by decide))) (gi_fk (frX10_go hT5 60 0 (by decide))))))) ?_
          refine z_iconst C dX10_readWho_116 ?_
          refine z_iadd C dX10_readWho_117 ?_
          refine z_iast (q := 0) C dX10_readWho_118 (ka_60 hS) rfl (by decide) ?_
          refine z_iconst C dX10_readWho_119 ?_
          have hf24 : fX10_readWho (I, J) = (true, (wi I20 60 0 ((gi I 60 0) + 1)), J21) := (by simp only [fX10_readWho, if_neg h1, hT5, hT10, if_pos h12, if_neg h13, if_pos h15, hT22])
          exact z_zreturnx C dX10_readWho_120 rfl (by rw [hf24]; rfl) (by rw [hf24])
      ·
        refine z_iconst C dX10_readWho_53 ?_
        refine z_goto 58 C dX10_readWho_54 (by decide) ?_
        refine z_iast (q := ((8 + (3 * (gi I 60 0))) + 0).toNat) C dX10_readWho_58 (ka_60 hS) (by omega) (by omega) ?_
        refine z_aload_n C dX10_readWho_59 0 rfl ?_
        refine z_iconst C dX10_readWho_60 ?_
        refine z_cVi (st := []) C dX10_readWho_61 mX10_202 (kd_57 hS) (qX10_isWord hC 1 hS (by omega)) rfl rfl (Nat.le_of_ble_eq_true rfl) (by decide) ?_
        refine z_eqi (b2 (gi I8 57 7 = 2 ∧ gj J9 57 12 = wt 1)) (b2_iff (by rw [show gi (wi I8 60 (((8 + (3 * (gi I 60 0))) + 0).toNat) 1) 57 7 = gi I8 57 7 from (gi_wi_na _ _ _ _ (by decide))])) ?_
        refine z_if_eq_b 71 C dX10_readWho_64 (by decide) (fun h25 => absurd h13 h25) (fun h25 => ?_)
        refine z_aload_n C dX10_readWho_67 0 rfl ?_
        refine z_cVvF (st := []) (F := fX10_go ((wi I8 60 (((8 + (3 * (gi I 60 0))) + 0).toNat) 1), J9)) C dX10_readWho_68 mX10_161 (kd_57 hS) (qX10_go hC  hS (by have hb := hl11; unfold LX at hb ⊢; have : gi (wi I8 60 (((8 + (3 * (gi I 60 0))) + 0).toNat) 1) 57 3 = gi I8 57 3 := (gi_wi_na _ _ _ _ (by decide)); have : gi (wi I8 60 (((8 + (3 * (gi I 60 0))) + 0).toNat) 1) 57 5 = gi I8 57 5 := (gi_wi_na _ _ _ _ (by decide)); have : gi (wi I8 60 (((8 + (3 * (gi I 60 0))) + 0).toNat) 1) 60 0 = gi I8 60 0 := (gi_wi_nk _ _ _ (by omega)); have : gi (wi I8 60 (((8 + (3 * (gi I 60 0))) + 0).toNat) 1) 60 1 = gi I8 60 1 := (gi_wi_nk _ _ _ (by omega)); have : gi (wi I8 60 (((8 + (3 * (gi I 60 0))) + 0).toNat) 1) 59 0 = gi I8 59 0 := (gi_wi_na _ _ _ _ (by decide)); have : gi (wi I8 60 (((8 + (3 * (gi I 60 0))) + 0).toNat) 1) 57 24 = gi I8 57 24 := (gi_wi_na _ _ _ _ (by decide)); omega)) rfl rfl (Nat.le_of_ble_eq_true rfl) (by decide) (fun r26 I27 J28 hT29 => ?_)
        have hl30 : LX I27 := okX10_go hT29 (by have hb := hl11; unfold LX at hb ⊢; have : gi (wi I8 60 (((8 + (3 * (gi I 60 0))) + 0).toNat) 1) 57 3 = gi I8 57 3 := (gi_wi_na _ _ _ _ (by decide)); have : gi (wi I8 60 (((8 + (3 * (gi I 60 0))) + 0).toNat) 1) 57 5 = gi I8 57 5 := (gi_wi_na _ _ _ _ (by decide)); have : gi (wi I8 60 (((8 + (3 * (gi I 60 0))) + 0).toNat) 1) 60 0 = gi I8 60 0 := (gi_wi_nk _ _ _ (by omega)); have : gi (wi I8 60 (((8 + (3 * (gi I 60 0))) + 0).toNat) 1) 60 1 = gi I8 60 1 := (gi_wi_nk _ _ _ (by omega)); have : gi (wi I8 60 (((8 + (3 * (gi I 60 0))) + 0).toNat) 1) 59 0 = gi I8 59 0 := (gi_wi_na _ _ _ _ (by decide)); have : gi (wi I8 60 (((8 + (3 * (gi I 60 0))) + 0).toNat) 1) 57 24 = gi I8 57 24 := (gi_wi_na _ _ _ _ (by decide)); omega); have hbhl30 := hl30; unfold LX at hbhl30
        refine z_aload_n C dX10_readWho_71 0 rfl ?_
        refine z_getR C dX10_readWho_72 fX10_16 rfl (kd_57 hS) (r_57_15 hS) ?_
        refine z_bipush C dX10_readWho_75 (by decide) ?_
        refine z_iconst C dX10_readWho_77 ?_
        refine z_iload_n C dX10_readWho_78 1 rfl ?_
        refine z_imul C dX10_readWho_79 ?_
        refine z_iadd C dX10_readWho_80 ?_
        refine z_iconst C dX10_readWho_81 ?_
        refine z_iadd C dX10_readWho_82 ?_
        refine z_aload_n C dX10_readWho_83 0 rfl ?_
        refine z_iconst C dX10_readWho_84 ?_
        refine z_cVi (st := [.int (iv ((8 + (3 * (gi I 60 0))) + 1)), .ref (G.2.2 + 60)]) C dX10_readWho_85 mX10_202 (kd_57 hS) (qX10_isWord hC 2 hS (by omega)) rfl rfl (Nat.le_of_ble_eq_true rfl) (by decide) ?_
        refine z_if_eq_b 95 C dX10_readWho_88 (by decide) (fun h31 => ?_) (fun h31 => ?_)
        ·
          refine z_iconst C dX10_readWho_95 ?_
          refine z_iast (q := ((8 + (3 * (gi I 60 0))) + 1).toNat) C dX10_readWho_96 (ka_60 hS) (by omega) (by omega) ?_
          refine z_aload_n C dX10_readWho_97 0 rfl ?_
          refine z_iconst C dX10_readWho_98 ?_
          refine z_cVi (st := []) C dX10_readWho_99 mX10_202 (kd_57 hS) (qX10_isWord hC 2 hS (by omega)) rfl rfl (Nat.le_of_ble_eq_true rfl) (by decide) ?_
          refine z_eqi (b2 (gi I27 57 7 = 2 ∧ gj J28 57 12 = wt 2)) (b2_iff (by rw [show gi (wi I27 60 (((8 + (3 * (gi I 60 0))) + 1).toNat) 0) 57 7 = gi I27 57 7 from (gi_wi_na _ _ _ _ (by decide))])) ?_
          refine z_if_eq_b 109 C dX10_readWho_102 (by decide) (fun h32 => ?_) (fun h32 => absurd h32 h31)
          refine z_aload_n C dX10_readWho_109 0 rfl ?_
          refine z_getR C dX10_readWho_110 fX10_16 rfl (kd_57 hS) (r_57_15 hS) ?_
          refine z_iconst C dX10_readWho_113 ?_
          refine z_dup2 C dX10_readWho_114 rfl rfl ?_
          refine z_iald (q := 0) C dX10_readWho_115 (ka_60 hS) rfl (by decide) ?_
          refine z_eqi (gi I 60 0) (Eq.trans (gi_wi_nk _ _ _ (by omega)) (Eq.trans (gi_fk (frX10_go hT29 60 0 (by decide))) (Eq.trans (gi_wi_nk _ _ _ (by omega)) (Eq.trans (gi_fk (frX10_readNew hT10 60 0 (by decide))) (gi_fk (frX10_go hT5 60 0 (by decide))))))) ?_
          refine z_iconst C dX10_readWho_116 ?_
          refine z_iadd C dX10_readWho_117 ?_
          refine z_iast (q := 0) C dX10_readWho_118 (ka_60 hS) rfl (by decide) ?_
          refine z_iconst C dX10_readWho_119 ?_
          have hf33 : fX10_readWho (I, J) = (true, (wi (wi I27 60 (((8 + (3 * (gi I 60 0))) + 1).toNat) 0) 60 0 ((gi I 60 0) + 1)), J28) := (by simp only [fX10_readWho, if_neg h1, hT5, hT10, if_pos h12, if_pos h13, hT29, if_neg h31])
          exact z_zreturnx C dX10_readWho_120 rfl (by rw [hf33]; rfl) (by rw [hf33])
        ·
          refine z_iconst C dX10_readWho_91 ?_
          refine z_goto 96 C dX10_readWho_92 (by decide) ?_
          refine z_iast (q := ((8 + (3 * (gi I 60 0))) + 1).toNat) C dX10_readWho_96 (ka_60 hS) (by omega) (by omega) ?_
          refine z_aload_n C dX10_readWho_97 0 rfl ?_
          refine z_iconst C dX10_readWho_98 ?_
          refine z_cVi (st := []) C dX10_readWho_99 mX10_202 (kd_57 hS) (qX10_isWord hC 2 hS (by omega)) rfl rfl (Nat.le_of_ble_eq_true rfl) (by decide) ?_
          refine z_eqi (b2 (gi I27 57 7 = 2 ∧ gj J28 57 12 = wt 2)) (b2_iff (by rw [show gi (wi I27 60 (((8 + (3 * (gi I 60 0))) + 1).toNat) 1) 57 7 = gi I27 57 7 from (gi_wi_na _ _ _ _ (by decide))])) ?_
          refine z_if_eq_b 109 C dX10_readWho_102 (by decide) (fun h34 => absurd h31 h34) (fun h34 => ?_)
          refine z_aload_n C dX10_readWho_105 0 rfl ?_
          refine z_cVvF (st := []) (F := fX10_go ((wi I27 60 (((8 + (3 * (gi I 60 0))) + 1).toNat) 1), J28)) C dX10_readWho_106 mX10_161 (kd_57 hS) (qX10_go hC  hS (by have hb := hl30; unfold LX at hb ⊢; have : gi (wi I27 60 (((8 + (3 * (gi I 60 0))) + 1).toNat) 1) 57 3 = gi I27 57 3 := (gi_wi_na _ _ _ _ (by decide)); have : gi (wi I27 60 (((8 + (3 * (gi I 60 0))) + 1).toNat) 1) 57 5 = gi I27 57 5 := (gi_wi_na _ _ _ _ (by decide)); have : gi (wi I27 60 (((8 + (3 * (gi I 60 0))) + 1).toNat) 1) 60 0 = gi I27 60 0 := (gi_wi_nk _ _ _ (by omega)); have : gi (wi I27 60 (((8 + (3 * (gi I 60 0))) + 1).toNat) 1) 60 1 = gi I27 60 1 := (gi_wi_nk _ _ _ (by omega)); have : gi (wi I27 60 (((8 + (3 * (gi I 60 0))) + 1).toNat) 1) 59 0 = gi I27 59 0 := (gi_wi_na _ _ _ _ (by decide)); have : gi (wi I27 60 (((8 + (3 * (gi I 60 0))) + 1).toNat) 1) 57 24 = gi I27 57 24 := (gi_wi_na _ _ _ _ (by decide)); omega)) rfl rfl (Nat.le_of_ble_eq_true rfl) (by decide) (fun r35 I36 J37 hT38 => ?_)
          have hl39 : LX I36 := okX10_go hT38 (by have hb := hl30; unfold LX at hb ⊢; have : gi (wi I27 60 (((8 + (3 * (gi I 60 0))) + 1).toNat) 1) 57 3 = gi I27 57 3 := (gi_wi_na _ _ _ _ (by decide)); have : gi (wi I27 60 (((8 + (3 * (gi I 60 0))) + 1).toNat) 1) 57 5 = gi I27 57 5 := (gi_wi_na _ _ _ _ (by decide)); have : gi (wi I27 60 (((8 + (3 * (gi I 60 0))) + 1).toNat) 1) 60 0 = gi I27 60 0 := (gi_wi_nk _ _ _ (by omega)); have : gi (wi I27 60 (((8 + (3 * (gi I 60 0))) + 1).toNat) 1) 60 1 = gi I27 60 1 := (gi_wi_nk _ _ _ (by omega)); have : gi (wi I27 60 (((8 + (3 * (gi I 60 0))) + 1).toNat) 1) 59 0 = gi I27 59 0 := (gi_wi_na _ _ _ _ (by decide)); have : gi (wi I27 60 (((8 + (3 * (gi I 60 0))) + 1).toNat) 1) 57 24 = gi I27 57 24 := (gi_wi_na _ _ _ _ (by decide)); omega); have hbhl39 := hl39; unfold LX at hbhl39
          refine z_aload_n C dX10_readWho_109 0 rfl ?_
          refine z_getR C dX10_readWho_110 fX10_16 rfl (kd_57 hS) (r_57_15 hS) ?_
          refine z_iconst C dX10_readWho_113 ?_
          refine z_dup2 C dX10_readWho_114 rfl rfl ?_
          refine z_iald (q := 0) C dX10_readWho_115 (ka_60 hS) rfl (by decide) ?_
          refine z_eqi (gi I 60 0) (Eq.trans (gi_fk (frX10_go hT38 60 0 (by decide))) (Eq.trans (gi_wi_nk _ _ _ (by omega)) (Eq.trans (gi_fk (frX10_go hT29 60 0 (by decide))) (Eq.trans (gi_wi_nk _ _ _ (by omega)) (Eq.trans (gi_fk (frX10_readNew hT10 60 0 (by decide))) (gi_fk (frX10_go hT5 60 0 (by decide)))))))) ?_
          refine z_iconst C dX10_readWho_116 ?_
          refine z_iadd C dX10_readWho_117 ?_
          refine z_iast (q := 0) C dX10_readWho_118 (ka_60 hS) rfl (by decide) ?_
          refine z_iconst C dX10_readWho_119 ?_
          have hf40 : fX10_readWho (I, J) = (true, (wi I36 60 0 ((gi I 60 0) + 1)), J37) := (by simp only [fX10_readWho, if_neg h1, hT5, hT10, if_pos h12, if_pos h13, hT29, if_pos h31, hT38])
          exact z_zreturnx C dX10_readWho_120 rfl (by rw [hf40]; rfl) (by rw [hf40])
    ·
      refine z_iconst C dX10_readWho_31 ?_
      have hf41 : fX10_readWho (I, J) = (false, I8, J9) := (by simp only [fX10_readWho, if_neg h1, hT5, hT10, if_neg h12])
      exact z_zreturnx C dX10_readWho_32 rfl (by rw [hf41]; rfl) (by rw [hf41])
  ·
    refine z_aload_n C dX10_readWho_13 0 rfl ?_
    refine z_iconst C dX10_readWho_14 ?_
    refine z_cVibF (st := []) (F := fX10_bad 4 (I, J)) C dX10_readWho_15 mX10_151 (kd_57 hS) (qX10_bad hC 4 hS (by omega)) rfl rfl (Nat.le_of_ble_eq_true rfl) (by decide) (fun r42 I43 J44 hT45 => ?_)
    have hl46 : LX I43 := okX10_bad hT45 hl; have hbhl46 := hl46; unfold LX at hbhl46
    have hf47 : fX10_readWho (I, J) = (decide (r42 = true), I43, J44) := (by simp only [fX10_readWho, if_pos h1, hT45])
    exact z_zreturnx C dX10_readWho_18 (b2_nar _) (by rw [hf47]; simp [b2]) (by rw [hf47])

noncomputable def fX10_readMint (S : Mi × Mj) : Bool × Mi × Mj :=
  match S with
  | (I, J) =>
    if (gi I 60 1) = 4 then
      match fX10_bad 4 (I, J) with
      | (r29, I30, J31) =>
        (decide (r29 = true), I30, J31)
    else
      match fX10_go (I, J) with
      | (r2, I3, J4) =>
        match fX10_readNew (8 + (gi I 60 1)) (I3, J4) with
        | (r7, I8, J9) =>
          if r7 = true then
            match fX10_readNumber 1 50 (I8, J9) with
            | (r14, I15, J16) =>
              if r14 = true then
                match fX10_readNumber 1 9 ((wi I15 60 (((32 + (3 * (gi I 60 1))) + 0).toNat) (gi I15 57 13)), J16) with
                | (r20, I21, J22) =>
                  if r20 = true then
                    (true, (wi (wi I21 60 (((32 + (3 * (gi I 60 1))) + 1).toNat) (gi I21 57 13)) 60 1 ((gi I 60 1) + 1)), J22)
                  else
                    (false, I21, J22)
              else
                (false, I15, J16)
          else
            (false, I8, J9)
theorem frX10_readMint {S : Mi × Mj} {r0 : Bool} {I0 : Mi} {J0 : Mj} (h : fX10_readMint  S = (r0, I0, J0)) (aq kq : Nat) (haq : aq ≠ 60 ∧ ¬ (aq = 57 ∧ kq = 10) ∧ ¬ (aq = 57 ∧ kq = 11) ∧ ¬ (aq = 57 ∧ kq = 13) ∧ ¬ (aq = 57 ∧ kq = 5) ∧ ¬ (aq = 57 ∧ kq = 6) ∧ ¬ (aq = 57 ∧ kq = 7) ∧ ¬ (aq = 57 ∧ kq = 8) ∧ ¬ (aq = 57 ∧ kq = 9)) : I0 aq kq = S.1 aq kq := by
  obtain ⟨I, J⟩ := S
  unfold fX10_readMint at h
  try simp only at h
  by_cases hq1 : (gi I 60 1) = 4
  · simp only [if_pos hq1] at h
    obtain ⟨⟨r29, I30, J31⟩, hq2⟩ : ∃ q, q = fX10_bad 4 (I, J) := ⟨_, rfl⟩
    rw [← hq2] at h; try simp only at h
    simp only [Prod.mk.injEq] at h
    obtain ⟨-, hI, hJ⟩ := h
    exact (congrFun (congrFun hI aq) kq).symm.trans (Eq.trans (frX10_bad hq2.symm aq kq ⟨haq.2.1, haq.2.2.1⟩) rfl)
  · simp only [if_neg hq1] at h
    obtain ⟨⟨r2, I3, J4⟩, hq3⟩ : ∃ q, q = fX10_go (I, J) := ⟨_, rfl⟩
    rw [← hq3] at h; try simp only at h
    obtain ⟨⟨r7, I8, J9⟩, hq4⟩ : ∃ q, q = fX10_readNew (8 + (gi I 60 1)) (I3, J4) := ⟨_, rfl⟩
    rw [← hq4] at h; try simp only at h
    by_cases hq5 : r7 = true
    · simp only [if_pos hq5] at h
      obtain ⟨⟨r14, I15, J16⟩, hq6⟩ : ∃ q, q = fX10_readNumber 1 50 (I8, J9) := ⟨_, rfl⟩
      rw [← hq6] at h; try simp only at h
      by_cases hq7 : r14 = true
      · simp only [if_pos hq7] at h
        obtain ⟨⟨r20, I21, J22⟩, hq8⟩ : ∃ q, q = fX10_readNumber 1 9 ((wi I15 60 (((32 + (3 * (gi I 60 1))) + 0).toNat) (gi I15 57 13)), J16) := ⟨_, rfl⟩
        rw [← hq8] at h; try simp only at h
        by_cases hq9 : r20 = true
        · simp only [if_pos hq9] at h
          simp only [Prod.mk.injEq] at h
          obtain ⟨-, hI, hJ⟩ := h
          exact (congrFun (congrFun hI aq) kq).symm.trans (Eq.trans (wi_nc _ _ (fun q => haq.1 q.1)) (Eq.trans (wi_nc _ _ (fun q => haq.1 q.1)) (Eq.trans (frX10_readNumber hq8.symm aq kq ⟨haq.2.1, haq.2.2.1, haq.2.2.2.1, haq.2.2.2.2.1, haq.2.2.2.2.2.1, haq.2.2.2.2.2.2.1, haq.2.2.2.2.2.2.2.1, haq.2.2.2.2.2.2.2.2⟩) (Eq.trans (wi_nc _ _ (fun q => haq.1 q.1)) (Eq.trans (frX10_readNumber hq6.symm aq kq ⟨haq.2.1, haq.2.2.1, haq.2.2.2.1, haq.2.2.2.2.1, haq.2.2.2.2.2.1, haq.2.2.2.2.2.2.1, haq.2.2.2.2.2.2.2.1, haq.2.2.2.2.2.2.2.2⟩) (Eq.trans (frX10_readNew hq4.symm aq kq ⟨haq.2.1, haq.2.2.1, haq.2.2.2.2.1, haq.2.2.2.2.2.1, haq.2.2.2.2.2.2.1, haq.2.2.2.2.2.2.2.1, haq.2.2.2.2.2.2.2.2⟩) (Eq.trans (frX10_go hq3.symm aq kq ⟨haq.2.2.2.2.1, haq.2.2.2.2.2.1, haq.2.2.2.2.2.2.1, haq.2.2.2.2.2.2.2.1, haq.2.2.2.2.2.2.2.2⟩) rfl)))))))
        · simp only [if_neg hq9] at h
          simp only [Prod.mk.injEq] at h
          obtain ⟨-, hI, hJ⟩ := h
          exact (congrFun (congrFun hI aq) kq).symm.trans (Eq.trans (frX10_readNumber hq8.symm aq kq ⟨haq.2.1, haq.2.2.1, haq.2.2.2.1, haq.2.2.2.2.1, haq.2.2.2.2.2.1, haq.2.2.2.2.2.2.1, haq.2.2.2.2.2.2.2.1, haq.2.2.2.2.2.2.2.2⟩) (Eq.trans (wi_nc _ _ (fun q => haq.1 q.1)) (Eq.trans (frX10_readNumber hq6.symm aq kq ⟨haq.2.1, haq.2.2.1, haq.2.2.2.1, haq.2.2.2.2.1, haq.2.2.2.2.2.1, haq.2.2.2.2.2.2.1, haq.2.2.2.2.2.2.2.1, haq.2.2.2.2.2.2.2.2⟩) (Eq.trans (frX10_readNew hq4.symm aq kq ⟨haq.2.1, haq.2.2.1, haq.2.2.2.2.1, haq.2.2.2.2.2.1, haq.2.2.2.2.2.2.1, haq.2.2.2.2.2.2.2.1, haq.2.2.2.2.2.2.2.2⟩) (Eq.trans (frX10_go hq3.symm aq kq ⟨haq.2.2.2.2.1, haq.2.2.2.2.2.1, haq.2.2.2.2.2.2.1, haq.2.2.2.2.2.2.2.1, haq.2.2.2.2.2.2.2.2⟩) rfl)))))
      · simp only [if_neg hq7] at h
        simp only [Prod.mk.injEq] at h
        obtain ⟨-, hI, hJ⟩ := h
        exact (congrFun (congrFun hI aq) kq).symm.trans (Eq.trans (frX10_readNumber hq6.symm aq kq ⟨haq.2.1, haq.2.2.1, haq.2.2.2.1, haq.2.2.2.2.1, haq.2.2.2.2.2.1, haq.2.2.2.2.2.2.1, haq.2.2.2.2.2.2.2.1, haq.2.2.2.2.2.2.2.2⟩) (Eq.trans (frX10_readNew hq4.symm aq kq ⟨haq.2.1, haq.2.2.1, haq.2.2.2.2.1, haq.2.2.2.2.2.1, haq.2.2.2.2.2.2.1, haq.2.2.2.2.2.2.2.1, haq.2.2.2.2.2.2.2.2⟩) (Eq.trans (frX10_go hq3.symm aq kq ⟨haq.2.2.2.2.1, haq.2.2.2.2.2.1, haq.2.2.2.2.2.2.1, haq.2.2.2.2.2.2.2.1, haq.2.2.2.2.2.2.2.2⟩) rfl)))
    · simp only [if_neg hq5] at h
      simp only [Prod.mk.injEq] at h
      obtain ⟨-, hI, hJ⟩ := h
      exact (congrFun (congrFun hI aq) kq).symm.trans (Eq.trans (frX10_readNew hq4.symm aq kq ⟨haq.2.1, haq.2.2.1, haq.2.2.2.2.1, haq.2.2.2.2.2.1, haq.2.2.2.2.2.2.1, haq.2.2.2.2.2.2.2.1, haq.2.2.2.2.2.2.2.2⟩) (Eq.trans (frX10_go hq3.symm aq kq ⟨haq.2.2.2.2.1, haq.2.2.2.2.2.1, haq.2.2.2.2.2.2.1, haq.2.2.2.2.2.2.2.1, haq.2.2.2.2.2.2.2.2⟩) rfl))
theorem fjX10_readMint {S : Mi × Mj} {r0 : Bool} {I0 : Mi} {J0 : Mj} (h : fX10_readMint  S = (r0, I0, J0)) (aq kq : Nat) (haq : aq ≠ 64 ∧ ¬ (aq = 57 ∧ kq = 12)) : J0 aq kq = S.2 aq kq := by
  obtain ⟨I, J⟩ := S
  unfold fX10_readMint at h
  try simp only at h
  by_cases hq1 : (gi I 60 1) = 4
  · simp only [if_pos hq1] at h
    obtain ⟨⟨r29, I30, J31⟩, hq2⟩ : ∃ q, q = fX10_bad 4 (I, J) := ⟨_, rfl⟩
    rw [← hq2] at h; try simp only at h
    simp only [Prod.mk.injEq] at h
    obtain ⟨-, hI, hJ⟩ := h
    exact (congrFun (congrFun hJ aq) kq).symm.trans (Eq.trans (fjX10_bad hq2.symm aq kq trivial) rfl)
  · simp only [if_neg hq1] at h
    obtain ⟨⟨r2, I3, J4⟩, hq3⟩ : ∃ q, q = fX10_go (I, J) := ⟨_, rfl⟩
    rw [← hq3] at h; try simp only at h
    obtain ⟨⟨r7, I8, J9⟩, hq4⟩ : ∃ q, q = fX10_readNew (8 + (gi I 60 1)) (I3, J4) := ⟨_, rfl⟩
    rw [← hq4] at h; try simp only at h
    by_cases hq5 : r7 = true
    · simp only [if_pos hq5] at h
      obtain ⟨⟨r14, I15, J16⟩, hq6⟩ : ∃ q, q = fX10_readNumber 1 50 (I8, J9) := ⟨_, rfl⟩
      rw [← hq6] at h; try simp only at h
      by_cases hq7 : r14 = true
      · simp only [if_pos hq7] at h
        obtain ⟨⟨r20, I21, J22⟩, hq8⟩ : ∃ q, q = fX10_readNumber 1 9 ((wi I15 60 (((32 + (3 * (gi I 60 1))) + 0).toNat) (gi I15 57 13)), J16) := ⟨_, rfl⟩
        rw [← hq8] at h; try simp only at h
        by_cases hq9 : r20 = true
        · simp only [if_pos hq9] at h
          simp only [Prod.mk.injEq] at h
          obtain ⟨-, hI, hJ⟩ := h
          exact (congrFun (congrFun hJ aq) kq).symm.trans (Eq.trans (fjX10_readNumber hq8.symm aq kq haq.2) (Eq.trans (fjX10_readNumber hq6.symm aq kq haq.2) (Eq.trans (fjX10_readNew hq4.symm aq kq ⟨haq.1, haq.2⟩) (Eq.trans (fjX10_go hq3.symm aq kq haq.2) rfl))))
        · simp only [if_neg hq9] at h
          simp only [Prod.mk.injEq] at h
          obtain ⟨-, hI, hJ⟩ := h
          exact (congrFun (congrFun hJ aq) kq).symm.trans (Eq.trans (fjX10_readNumber hq8.symm aq kq haq.2) (Eq.trans (fjX10_readNumber hq6.symm aq kq haq.2) (Eq.trans (fjX10_readNew hq4.symm aq kq ⟨haq.1, haq.2⟩) (Eq.trans (fjX10_go hq3.symm aq kq haq.2) rfl))))
      · simp only [if_neg hq7] at h
        simp only [Prod.mk.injEq] at h
        obtain ⟨-, hI, hJ⟩ := h
        exact (congrFun (congrFun hJ aq) kq).symm.trans (Eq.trans (fjX10_readNumber hq6.symm aq kq haq.2) (Eq.trans (fjX10_readNew hq4.symm aq kq ⟨haq.1, haq.2⟩) (Eq.trans (fjX10_go hq3.symm aq kq haq.2) rfl)))
    · simp only [if_neg hq5] at h
      simp only [Prod.mk.injEq] at h
      obtain ⟨-, hI, hJ⟩ := h
      exact (congrFun (congrFun hJ aq) kq).symm.trans (Eq.trans (fjX10_readNew hq4.symm aq kq ⟨haq.1, haq.2⟩) (Eq.trans (fjX10_go hq3.symm aq kq haq.2) rfl))
theorem okX10_readMint {I : Mi} {J : Mj} {r0 : Bool} {I0 : Mi} {J0 : Mj} (h : fX10_readMint  (I, J) = (r0, I0, J0)) (hl : LX I) : LX I0 := by
  unfold fX10_readMint at h
  try simp only at h
  have hb0 := hl
  unfold LX at hb0
  by_cases hq1 : (gi I 60 1) = 4
  · simp only [if_pos hq1] at h
    obtain ⟨⟨r29, I30, J31⟩, hq2⟩ : ∃ q, q = fX10_bad 4 (I, J) := ⟨_, rfl⟩
    rw [← hq2] at h; try simp only at h
    have hl2 : LX I30 := okX10_bad hq2.symm hl; have hbhl2 := hl2; unfold LX at hbhl2
    simp only [Prod.mk.injEq] at h
    obtain ⟨-, hI, hJ⟩ := h
    rw [← hI]
    exact hl2
  · simp only [if_neg hq1] at h
    obtain ⟨⟨r2, I3, J4⟩, hq3⟩ : ∃ q, q = fX10_go (I, J) := ⟨_, rfl⟩
    rw [← hq3] at h; try simp only at h
    have hl3 : LX I3 := okX10_go hq3.symm hl; have hbhl3 := hl3; unfold LX at hbhl3
    obtain ⟨⟨r7, I8, J9⟩, hq4⟩ : ∃ q, q = fX10_readNew (8 + (gi I 60 1)) (I3, J4) := ⟨_, rfl⟩
    rw [← hq4] at h; try simp only at h
    have hl4 : LX I8 := okX10_readNew hq4.symm hl3; have hbhl4 := hl4; unfold LX at hbhl4
    by_cases hq5 : r7 = true
    · simp only [if_pos hq5] at h
      obtain ⟨⟨r14, I15, J16⟩, hq6⟩ : ∃ q, q = fX10_readNumber 1 50 (I8, J9) := ⟨_, rfl⟩
      rw [← hq6] at h; try simp only at h
      have hl6 : LX I15 := okX10_readNumber hq6.symm hl4; have hbhl6 := hl6; unfold LX at hbhl6
      by_cases hq7 : r14 = true
      · simp only [if_pos hq7] at h
        obtain ⟨⟨r20, I21, J22⟩, hq8⟩ : ∃ q, q = fX10_readNumber 1 9 ((wi I15 60 (((32 + (3 * (gi I 60 1))) + 0).toNat) (gi I15 57 13)), J16) := ⟨_, rfl⟩
        rw [← hq8] at h; try simp only at h
        have hl8 : LX I21 := okX10_readNumber hq8.symm (by have hb := hl6; unfold LX at hb ⊢; have : gi (wi I15 60 (((32 + (3 * (gi I 60 1))) + 0).toNat) (gi I15 57 13)) 57 3 = gi I15 57 3 := (gi_wi_na _ _ _ _ (by decide)); have : gi (wi I15 60 (((32 + (3 * (gi I 60 1))) + 0).toNat) (gi I15 57 13)) 57 5 = gi I15 57 5 := (gi_wi_na _ _ _ _ (by decide)); have : gi (wi I15 60 (((32 + (3 * (gi I 60 1))) + 0).toNat) (gi I15 57 13)) 60 0 = gi I15 60 0 := (gi_wi_nk _ _ _ (by omega)); have : gi (wi I15 60 (((32 + (3 * (gi I 60 1))) + 0).toNat) (gi I15 57 13)) 60 1 = gi I15 60 1 := (gi_wi_nk _ _ _ (by omega)); have : gi (wi I15 60 (((32 + (3 * (gi I 60 1))) + 0).toNat) (gi I15 57 13)) 59 0 = gi I15 59 0 := (gi_wi_na _ _ _ _ (by decide)); have : gi (wi I15 60 (((32 + (3 * (gi I 60 1))) + 0).toNat) (gi I15 57 13)) 57 24 = gi I15 57 24 := (gi_wi_na _ _ _ _ (by decide)); omega); have hbhl8 := hl8; unfold LX at hbhl8
        by_cases hq9 : r20 = true
        · simp only [if_pos hq9] at h
          simp only [Prod.mk.injEq] at h
          obtain ⟨-, hI, hJ⟩ := h
          rw [← hI]
          exact (by have hb := hl8; unfold LX at hb ⊢; have : gi (wi (wi I21 60 (((32 + (3 * (gi I 60 1))) + 1).toNat) (gi I21 57 13)) 60 1 ((gi I 60 1) + 1)) 57 3 = gi I21 57 3 := (Eq.trans (gi_wi_na _ _ _ _ (by decide)) (gi_wi_na _ _ _ _ (by decide))); have : gi (wi (wi I21 60 (((32 + (3 * (gi I 60 1))) + 1).toNat) (gi I21 57 13)) 60 1 ((gi I 60 1) + 1)) 57 5 = gi I21 57 5 := (Eq.trans (gi_wi_na _ _ _ _ (by decide)) (gi_wi_na _ _ _ _ (by decide))); have : gi (wi (wi I21 60 (((32 + (3 * (gi I 60 1))) + 1).toNat) (gi I21 57 13)) 60 1 ((gi I 60 1) + 1)) 60 0 = gi I21 60 0 := (Eq.trans (gi_wi_nk _ _ _ (by decide)) (gi_wi_nk _ _ _ (by omega))); have : gi (wi (wi I21 60 (((32 + (3 * (gi I 60 1))) + 1).toNat) (gi I21 57 13)) 60 1 ((gi I 60 1) + 1)) 60 1 = (gi I 60 1) + 1 := (gi_wi_eq (x := (gi I 60 1) + 1) _ _ _ (by have := gi_rng I 60 1; omega)); have : gi (wi (wi I21 60 (((32 + (3 * (gi I 60 1))) + 1).toNat) (gi I21 57 13)) 60 1 ((gi I 60 1) + 1)) 59 0 = gi I21 59 0 := (Eq.trans (gi_wi_na _ _ _ _ (by decide)) (gi_wi_na _ _ _ _ (by decide))); have : gi (wi (wi I21 60 (((32 + (3 * (gi I 60 1))) + 1).toNat) (gi I21 57 13)) 60 1 ((gi I 60 1) + 1)) 57 24 = gi I21 57 24 := (Eq.trans (gi_wi_na _ _ _ _ (by decide)) (gi_wi_na _ _ _ _ (by decide))); omega)
        · simp only [if_neg hq9] at h
          simp only [Prod.mk.injEq] at h
          obtain ⟨-, hI, hJ⟩ := h
          rw [← hI]
          exact hl8
      · simp only [if_neg hq7] at h
        simp only [Prod.mk.injEq] at h
        obtain ⟨-, hI, hJ⟩ := h
        rw [← hI]
        exact hl6
    · simp only [if_neg hq5] at h
      simp only [Prod.mk.injEq] at h
      obtain ⟨-, hI, hJ⟩ := h
      rw [← hI]
      exact hl4
set_option maxHeartbeats 4000000 in
set_option maxRecDepth 100000 in
theorem qX10_readMint {G : Gx} {σ : State} (hC : Cz G σ) {sh : Sh} {I : Mi} {J : Mj}  (hS : St sh) (hl : LX I) : Ce G σ 5 yX10_readMint cX10_readMint 2 (some .boolean) [.ref (G.2.2 + 57)] (sh, I, J) 0 0 (some (.int (iv (b2 ((fX10_readMint (I, J)).1 = true))))) (sh, (fX10_readMint (I, J)).2.1, (fX10_readMint (I, J)).2.2) := by
  refine Ct.of hC (by decide +kernel) (Nat.le_of_ble_eq_true rfl) ?_
  intro p l e R s m args below meth c C
  show Jz G σ p l e R s m args below meth c 2 0 0 (Qx (some (.int (iv (b2 ((fX10_readMint (I, J)).1 = true))))) (sh, (fX10_readMint (I, J)).2.1, (fX10_readMint (I, J)).2.2)) (sh, I, J) 0 0 0 [(0, .ref (G.2.2 + 57))] []
  have hb0 := hl
  unfold LX at hb0
  refine z_aload_n C dX10_readMint_0 0 rfl ?_
  refine z_getR C dX10_readMint_1 fX10_16 rfl (kd_57 hS) (r_57_15 hS) ?_
  refine z_iconst C dX10_readMint_4 ?_
  refine z_iald (q := 1) C dX10_readMint_5 (ka_60 hS) rfl (by decide) ?_
  refine z_istore_n (lv' := [(0, .ref (G.2.2 + 57)), (1, .int (iv (gi I 60 1)))]) C dX10_readMint_6 rfl (by decide) [1, 0] rfl ?_
  refine z_iload_n C dX10_readMint_7 1 rfl ?_
  refine z_iconst C dX10_readMint_8 ?_
  refine z_icmp_ne 18 C dX10_readMint_9 (by decide) (gi_rng _ _ _) (by decide) (fun h1 => ?_) (fun h1 => ?_)
  ·
    refine z_aload_n C dX10_readMint_18 0 rfl ?_
    refine z_cVvF (st := []) (F := fX10_go (I, J)) C dX10_readMint_19 mX10_161 (kd_57 hS) (qX10_go hC  hS hl) rfl rfl (Nat.le_of_ble_eq_true rfl) (by decide) (fun r2 I3 J4 hT5 => ?_)
    have hl6 : LX I3 := okX10_go hT5 hl; have hbhl6 := hl6; unfold LX at hbhl6
    refine z_aload_n C dX10_readMint_22 0 rfl ?_
    refine z_bipush C dX10_readMint_23 (by decide) ?_
    refine z_iload_n C dX10_readMint_25 1 rfl ?_
    refine z_iadd C dX10_readMint_26 ?_
    refine z_cVibF (st := []) (F := fX10_readNew (8 + (gi I 60 1)) (I3, J4)) C dX10_readMint_27 mX10_199 (kd_57 hS) (qX10_readNew hC (8 + (gi I 60 1)) hS hl6 (by have := gi_rng I 60 1; omega)) rfl rfl (Nat.le_of_ble_eq_true rfl) (by decide) (fun r7 I8 J9 hT10 => ?_)
    have hl11 : LX I8 := okX10_readNew hT10 hl6; have hbhl11 := hl11; unfold LX at hbhl11
    refine z_if_eq_b 43 C dX10_readMint_30 (by decide) (fun h12 => ?_) (fun h12 => ?_)
    ·
      refine z_iconst C dX10_readMint_43 ?_
      have hf13 : fX10_readMint (I, J) = (false, I8, J9) := (by simp only [fX10_readMint, if_neg h1, hT5, hT10, if_neg h12])
      exact z_zreturnx C dX10_readMint_44 rfl (by rw [hf13]; rfl) (by rw [hf13])
    ·
      refine z_aload_n C dX10_readMint_33 0 rfl ?_
      refine z_iconst C dX10_readMint_34 ?_
      refine z_bipush C dX10_readMint_35 (by decide) ?_
      refine z_cVibF (st := []) (F := fX10_readNumber 1 50 (I8, J9)) C dX10_readMint_37 mX10_205 (kd_57 hS) (qX10_readNumber hC 1 50 hS hl11 (by omega) (by omega)) rfl rfl (Nat.le_of_ble_eq_true rfl) (by decide) (fun r14 I15 J16 hT17 => ?_)
      have hl18 : LX I15 := okX10_readNumber hT17 hl11; have hbhl18 := hl18; unfold LX at hbhl18
      refine z_if_ne_b 45 C dX10_readMint_40 (by decide) (fun h19 => ?_) (fun h19 => ?_)
      ·
        refine z_aload_n C dX10_readMint_45 0 rfl ?_
        refine z_getR C dX10_readMint_46 fX10_16 rfl (kd_57 hS) (r_57_15 hS) ?_
        refine z_bipush C dX10_readMint_49 (by decide) ?_
        refine z_iconst C dX10_readMint_51 ?_
        refine z_iload_n C dX10_readMint_52 1 rfl ?_
        refine z_imul C dX10_readMint_53 ?_
        refine z_iadd C dX10_readMint_54 ?_
        refine z_iconst C dX10_readMint_55 ?_
        refine z_iadd C dX10_readMint_56 ?_
        refine z_aload_n C dX10_readMint_57 0 rfl ?_
        refine z_getI C dX10_readMint_58 fX10_158 rfl (kd_57 hS) ?_
        refine z_iast (q := ((32 + (3 * (gi I 60 1))) + 0).toNat) C dX10_readMint_61 (ka_60 hS) (by omega) (by omega) ?_
        refine z_aload_n C dX10_readMint_62 0 rfl ?_
        refine z_iconst C dX10_readMint_63 ?_
        refine z_bipush C dX10_readMint_64 (by decide) ?_
        refine z_cVibF (st := []) (F := fX10_readNumber 1 9 ((wi I15 60 (((32 + (3 * (gi I 60 1))) + 0).toNat) (gi I15 57 13)), J16)) C dX10_readMint_66 mX10_205 (kd_57 hS) (qX10_readNumber hC 1 9 hS (by have hb := hl18; unfold LX at hb ⊢; have : gi (wi I15 60 (((32 + (3 * (gi I 60 1))) + 0).toNat) (gi I15 57 13)) 57 3 = gi I15 57 3 := (gi_wi_na _ _ _ _ (by decide)); have : gi (wi I15 60 (((32 + (3 * (gi I 60 1))) + 0).toNat) (gi I15 57 13)) 57 5 = gi I15 57 5 := (gi_wi_na _ _ _ _ (by decide)); have : gi (wi I15 60 (((32 + (3 * (gi I 60 1))) + 0).toNat) (gi I15 57 13)) 60 0 = gi I15 60 0 := (gi_wi_nk _ _ _ (by omega)); have : gi (wi I15 60 (((32 + (3 * (gi I 60 1))) + 0).toNat) (gi I15 57 13)) 60 1 = gi I15 60 1 := (gi_wi_nk _ _ _ (by omega)); have : gi (wi I15 60 (((32 + (3 * (gi I 60 1))) + 0).toNat) (gi I15 57 13)) 59 0 = gi I15 59 0 := (gi_wi_na _ _ _ _ (by decide)); have : gi (wi I15 60 (((32 + (3 * (gi I 60 1))) + 0).toNat) (gi I15 57 13)) 57 24 = gi I15 57 24 := (gi_wi_na _ _ _ _ (by decide)); omega) (by omega) (by omega)) rfl rfl (Nat.le_of_ble_eq_true rfl) (by decide) (fun r20 I21 J22 hT23 => ?_)
        have hl24 : LX I21 := okX10_readNumber hT23 (by have hb := hl18; unfold LX at hb ⊢; have : gi (wi I15 60 (((32 + (3 * (gi I 60 1))) + 0).toNat) (gi I15 57 13)) 57 3 = gi I15 57 3 := (gi_wi_na _ _ _ _ (by decide)); have : gi (wi I15 60 (((32 + (3 * (gi I 60 1))) + 0).toNat) (gi I15 57 13)) 57 5 = gi I15 57 5 := (gi_wi_na _ _ _ _ (by decide)); have : gi (wi I15 60 (((32 + (3 * (gi I 60 1))) + 0).toNat) (gi I15 57 13)) 60 0 = gi I15 60 0 := (gi_wi_nk _ _ _ (by omega)); have : gi (wi I15 60 (((32 + (3 * (gi I 60 1))) + 0).toNat) (gi I15 57 13)) 60 1 = gi I15 60 1 := (gi_wi_nk _ _ _ (by omega)); have : gi (wi I15 60 (((32 + (3 * (gi I 60 1))) + 0).toNat) (gi I15 57 13)) 59 0 = gi I15 59 0 := (gi_wi_na _ _ _ _ (by decide)); have : gi (wi I15 60 (((32 + (3 * (gi I 60 1))) + 0).toNat) (gi I15 57 13)) 57 24 = gi I15 57 24 := (gi_wi_na _ _ _ _ (by decide)); omega); have hbhl24 := hl24; unfold LX at hbhl24
        refine z_if_ne_b 74 C dX10_readMint_69 (by decide) (fun h25 => ?_) (fun h25 => ?_)
        ·
          refine z_aload_n C dX10_readMint_74 0 rfl ?_
          refine z_getR C dX10_readMint_75 fX10_16 rfl (kd_57 hS) (r_57_15 hS) ?_
          refine z_bipush C dX10_readMint_78 (by decide) ?_
          refine z_iconst C dX10_readMint_80 ?_
          refine z_iload_n C dX10_readMint_81 1 rfl ?_
          refine z_imul C dX10_readMint_82 ?_
          refine z_iadd C dX10_readMint_83 ?_
          refine z_iconst C dX10_readMint_84 ?_
          refine z_iadd C dX10_readMint_85 ?_
          refine z_aload_n C dX10_readMint_86 0 rfl ?_
          refine z_getI C dX10_readMint_87 fX10_158 rfl (kd_57 hS) ?_
          refine z_iast (q := ((32 + (3 * (gi I 60 1))) + 1).toNat) C dX10_readMint_90 (ka_60 hS) (by omega) (by omega) ?_
          refine z_aload_n C dX10_readMint_91 0 rfl ?_
          refine z_getR C dX10_readMint_92 fX10_16 rfl (kd_57 hS) (r_57_15 hS) ?_
          refine z_iconst C dX10_readMint_95 ?_
          refine z_dup2 C dX10_readMint_96 rfl rfl ?_
          refine z_iald (q := 1) C dX10_readMint_97 (ka_60 hS) rfl (by decide) ?_
          refine z_eqi (gi I 60 1) (Eq.trans (gi_wi_nk _ _ _ (by omega)) (Eq.trans (gi_fk (frX10_readNumber hT23 60 1 (by decide))) (Eq.trans (gi_wi_nk _ _ _ (by omega)) (Eq.trans (gi_fk (frX10_readNumber hT17 60 1 (by decide))) (Eq.trans (gi_fk (frX10_readNew hT10 60 1 (by decide))) (gi_fk (frX10_go hT5 60 1 (by decide)))))))) ?_
          refine z_iconst C dX10_readMint_98 ?_
          refine z_iadd C dX10_readMint_99 ?_
          refine z_iast (q := 1) C dX10_readMint_100 (ka_60 hS) rfl (by decide) ?_
          refine z_iconst C dX10_readMint_101 ?_
          have hf26 : fX10_readMint (I, J) = (true, (wi (wi I21 60 (((32 + (3 * (gi I 60 1))) + 1).toNat) (gi I21 57 13)) 60 1 ((gi I 60 1) + 1)), J22) := (by simp only [fX10_readMint, if_neg h1, hT5, hT10, if_pos h12, hT17, if_pos h19, hT23, if_pos h25])
          exact z_zreturnx C dX10_readMint_102 rfl (by rw [hf26]; rfl) (by rw [hf26])
        ·
          refine z_iconst C dX10_readMint_72 ?_
          have hf27 : fX10_readMint (I, J) = (false, I21, J22) := (by simp only [fX10_readMint, if_neg h1, hT5, hT10, if_pos h12, hT17, if_pos h19, hT23, if_neg h25])
          exact z_zreturnx C dX10_readMint_73 rfl (by rw [hf27]; rfl) (by rw [hf27])
      ·
        refine z_iconst C dX10_readMint_43 ?_
        have hf28 : fX10_readMint (I, J) = (false, I15, J16) := (by simp only [fX10_readMint, if_neg h1, hT5, hT10, if_pos h12, hT17, if_neg h19])
        exact z_zreturnx C dX10_readMint_44 rfl (by rw [hf28]; rfl) (by rw [hf28])
  ·
    refine z_aload_n C dX10_readMint_12 0 rfl ?_
    refine z_iconst C dX10_readMint_13 ?_
    refine z_cVibF (st := []) (F := fX10_bad 4 (I, J)) C dX10_readMint_14 mX10_151 (kd_57 hS) (qX10_bad hC 4 hS (by omega)) rfl rfl (Nat.le_of_ble_eq_true rfl) (by decide) (fun r29 I30 J31 hT32 => ?_)
    have hl33 : LX I30 := okX10_bad hT32 hl; have hbhl33 := hl33; unfold LX at hbhl33
    have hf34 : fX10_readMint (I, J) = (decide (r29 = true), I30, J31) := (by simp only [fX10_readMint, if_pos h1, hT32])
    exact z_zreturnx C dX10_readMint_17 (b2_nar _) (by rw [hf34]; simp [b2]) (by rw [hf34])

noncomputable def fX10_readWhoTold (S : Mi × Mj) : Bool × Mi × Mj :=
  match S with
  | (I, J) =>
    if gi I 57 7 = 2 ∧ isNm (gj J 57 12) = true then
      if (fd J 64 0 (gi I 60 0)) = (-1) then
        match fX10_bad 3 ((wi I 57 13 (fd J 64 0 (gi I 60 0))), J) with
        | (r4, I5, J6) =>
          if r4 = true then
            (true, I5, J6)
          else
            (false, I5, J6)
      else
        (true, (wi I 57 13 (fd J 64 0 (gi I 60 0))), J)
    else
      match fX10_bad 1 (I, J) with
      | (r12, I13, J14) =>
        (decide (r12 = true), I13, J14)
theorem frX10_readWhoTold {S : Mi × Mj} {r0 : Bool} {I0 : Mi} {J0 : Mj} (h : fX10_readWhoTold  S = (r0, I0, J0)) (aq kq : Nat) (haq : ¬ (aq = 57 ∧ kq = 10) ∧ ¬ (aq = 57 ∧ kq = 11) ∧ ¬ (aq = 57 ∧ kq = 13)) : I0 aq kq = S.1 aq kq := by
  obtain ⟨I, J⟩ := S
  unfold fX10_readWhoTold at h
  try simp only at h
  by_cases hq1 : gi I 57 7 = 2 ∧ isNm (gj J 57 12) = true
  · simp only [if_pos hq1] at h
    by_cases hq2 : (fd J 64 0 (gi I 60 0)) = (-1)
    · simp only [if_pos hq2] at h
      obtain ⟨⟨r4, I5, J6⟩, hq3⟩ : ∃ q, q = fX10_bad 3 ((wi I 57 13 (fd J 64 0 (gi I 60 0))), J) := ⟨_, rfl⟩
      rw [← hq3] at h; try simp only at h
      by_cases hq4 : r4 = true
      · simp only [if_pos hq4] at h
        simp only [Prod.mk.injEq] at h
        obtain ⟨-, hI, hJ⟩ := h
        exact (congrFun (congrFun hI aq) kq).symm.trans (Eq.trans (frX10_bad hq3.symm aq kq ⟨haq.1, haq.2.1⟩) (Eq.trans (wi_nc _ _ haq.2.2) rfl))
      · simp only [if_neg hq4] at h
        simp only [Prod.mk.injEq] at h
        obtain ⟨-, hI, hJ⟩ := h
        exact (congrFun (congrFun hI aq) kq).symm.trans (Eq.trans (frX10_bad hq3.symm aq kq ⟨haq.1, haq.2.1⟩) (Eq.trans (wi_nc _ _ haq.2.2) rfl))
    · simp only [if_neg hq2] at h
      simp only [Prod.mk.injEq] at h
      obtain ⟨-, hI, hJ⟩ := h
      exact (congrFun (congrFun hI aq) kq).symm.trans (Eq.trans (wi_nc _ _ haq.2.2) rfl)
  · simp only [if_neg hq1] at h
    obtain ⟨⟨r12, I13, J14⟩, hq5⟩ : ∃ q, q = fX10_bad 1 (I, J) := ⟨_, rfl⟩
    rw [← hq5] at h; try simp only at h
    simp only [Prod.mk.injEq] at h
    obtain ⟨-, hI, hJ⟩ := h
    exact (congrFun (congrFun hI aq) kq).symm.trans (Eq.trans (frX10_bad hq5.symm aq kq ⟨haq.1, haq.2.1⟩) rfl)
theorem fjX10_readWhoTold {S : Mi × Mj} {r0 : Bool} {I0 : Mi} {J0 : Mj} (h : fX10_readWhoTold  S = (r0, I0, J0)) (aq kq : Nat) (haq : True) : J0 aq kq = S.2 aq kq := by
  obtain ⟨I, J⟩ := S
  unfold fX10_readWhoTold at h
  try simp only at h
  by_cases hq1 : gi I 57 7 = 2 ∧ isNm (gj J 57 12) = true
  · simp only [if_pos hq1] at h
    by_cases hq2 : (fd J 64 0 (gi I 60 0)) = (-1)
    · simp only [if_pos hq2] at h
      obtain ⟨⟨r4, I5, J6⟩, hq3⟩ : ∃ q, q = fX10_bad 3 ((wi I 57 13 (fd J 64 0 (gi I 60 0))), J) := ⟨_, rfl⟩
      rw [← hq3] at h; try simp only at h
      by_cases hq4 : r4 = true
      · simp only [if_pos hq4] at h
        simp only [Prod.mk.injEq] at h
        obtain ⟨-, hI, hJ⟩ := h
        exact (congrFun (congrFun hJ aq) kq).symm.trans (Eq.trans (fjX10_bad hq3.symm aq kq trivial) rfl)
      · simp only [if_neg hq4] at h
        simp only [Prod.mk.injEq] at h
        obtain ⟨-, hI, hJ⟩ := h
        exact (congrFun (congrFun hJ aq) kq).symm.trans (Eq.trans (fjX10_bad hq3.symm aq kq trivial) rfl)
    · simp only [if_neg hq2] at h
      simp only [Prod.mk.injEq] at h
      obtain ⟨-, hI, hJ⟩ := h
      exact (congrFun (congrFun hJ aq) kq).symm.trans rfl
  · simp only [if_neg hq1] at h
    obtain ⟨⟨r12, I13, J14⟩, hq5⟩ : ∃ q, q = fX10_bad 1 (I, J) := ⟨_, rfl⟩
    rw [← hq5] at h; try simp only at h
    simp only [Prod.mk.injEq] at h
    obtain ⟨-, hI, hJ⟩ := h
    exact (congrFun (congrFun hJ aq) kq).symm.trans (Eq.trans (fjX10_bad hq5.symm aq kq trivial) rfl)
theorem okX10_readWhoTold {I : Mi} {J : Mj} {r0 : Bool} {I0 : Mi} {J0 : Mj} (h : fX10_readWhoTold  (I, J) = (r0, I0, J0)) (hl : LX I) : LX I0 := by
  unfold fX10_readWhoTold at h
  try simp only at h
  have hb0 := hl
  unfold LX at hb0
  by_cases hq1 : gi I 57 7 = 2 ∧ isNm (gj J 57 12) = true
  · simp only [if_pos hq1] at h
    by_cases hq2 : (fd J 64 0 (gi I 60 0)) = (-1)
    · simp only [if_pos hq2] at h
      obtain ⟨⟨r4, I5, J6⟩, hq3⟩ : ∃ q, q = fX10_bad 3 ((wi I 57 13 (fd J 64 0 (gi I 60 0))), J) := ⟨_, rfl⟩
      rw [← hq3] at h; try simp only at h
      have hl3 : LX I5 := okX10_bad hq3.symm (by have hb := hl; unfold LX at hb ⊢; have : gi (wi I 57 13 (fd J 64 0 (gi I 60 0))) 57 3 = gi I 57 3 := (gi_wi_nk _ _ _ (by decide)); have : gi (wi I 57 13 (fd J 64 0 (gi I 60 0))) 57 5 = gi I 57 5 := (gi_wi_nk _ _ _ (by decide)); have : gi (wi I 57 13 (fd J 64 0 (gi I 60 0))) 60 0 = gi I 60 0 := (gi_wi_na _ _ _ _ (by decide)); have : gi (wi I 57 13 (fd J 64 0 (gi I 60 0))) 60 1 = gi I 60 1 := (gi_wi_na _ _ _ _ (by decide)); have : gi (wi I 57 13 (fd J 64 0 (gi I 60 0))) 59 0 = gi I 59 0 := (gi_wi_na _ _ _ _ (by decide)); have : gi (wi I 57 13 (fd J 64 0 (gi I 60 0))) 57 24 = gi I 57 24 := (gi_wi_nk _ _ _ (by decide)); omega); have hbhl3 := hl3; unfold LX at hbhl3
      by_cases hq4 : r4 = true
      · simp only [if_pos hq4] at h
        simp only [Prod.mk.injEq] at h
        obtain ⟨-, hI, hJ⟩ := h
        rw [← hI]
        exact hl3
      · simp only [if_neg hq4] at h
        simp only [Prod.mk.injEq] at h
        obtain ⟨-, hI, hJ⟩ := h
        rw [← hI]
        exact hl3
    · simp only [if_neg hq2] at h
      simp only [Prod.mk.injEq] at h
      obtain ⟨-, hI, hJ⟩ := h
      rw [← hI]
      exact (by have hb := hl; unfold LX at hb ⊢; have : gi (wi I 57 13 (fd J 64 0 (gi I 60 0))) 57 3 = gi I 57 3 := (gi_wi_nk _ _ _ (by decide)); have : gi (wi I 57 13 (fd J 64 0 (gi I 60 0))) 57 5 = gi I 57 5 := (gi_wi_nk _ _ _ (by decide)); have : gi (wi I 57 13 (fd J 64 0 (gi I 60 0))) 60 0 = gi I 60 0 := (gi_wi_na _ _ _ _ (by decide)); have : gi (wi I 57 13 (fd J 64 0 (gi I 60 0))) 60 1 = gi I 60 1 := (gi_wi_na _ _ _ _ (by decide)); have : gi (wi I 57 13 (fd J 64 0 (gi I 60 0))) 59 0 = gi I 59 0 := (gi_wi_na _ _ _ _ (by decide)); have : gi (wi I 57 13 (fd J 64 0 (gi I 60 0))) 57 24 = gi I 57 24 := (gi_wi_nk _ _ _ (by decide)); omega)
  · simp only [if_neg hq1] at h
    obtain ⟨⟨r12, I13, J14⟩, hq5⟩ : ∃ q, q = fX10_bad 1 (I, J) := ⟨_, rfl⟩
    rw [← hq5] at h; try simp only at h
    have hl5 : LX I13 := okX10_bad hq5.symm hl; have hbhl5 := hl5; unfold LX at hbhl5
    simp only [Prod.mk.injEq] at h
    obtain ⟨-, hI, hJ⟩ := h
    rw [← hI]
    exact hl5
set_option maxHeartbeats 4000000 in
set_option maxRecDepth 100000 in
theorem qX10_readWhoTold {G : Gx} {σ : State} (hC : Cz G σ) {sh : Sh} {I : Mi} {J : Mj}  (hS : St sh) (hl : LX I) : Ce G σ 4 yX10_readWhoTold cX10_readWhoTold 1 (some .boolean) [.ref (G.2.2 + 57)] (sh, I, J) 0 0 (some (.int (iv (b2 ((fX10_readWhoTold (I, J)).1 = true))))) (sh, (fX10_readWhoTold (I, J)).2.1, (fX10_readWhoTold (I, J)).2.2) := by
  refine Ct.of hC (by decide +kernel) (Nat.le_of_ble_eq_true rfl) ?_
  intro p l e R s m args below meth c C
  show Jz G σ p l e R s m args below meth c 1 0 0 (Qx (some (.int (iv (b2 ((fX10_readWhoTold (I, J)).1 = true))))) (sh, (fX10_readWhoTold (I, J)).2.1, (fX10_readWhoTold (I, J)).2.2)) (sh, I, J) 0 0 0 [(0, .ref (G.2.2 + 57))] []
  have hb0 := hl
  unfold LX at hb0
  refine z_aload_n C dX10_readWhoTold_0 0 rfl ?_
  refine z_cVi (st := []) C dX10_readWhoTold_1 mX10_191 (kd_57 hS) (qX10_isName hC  hS) rfl rfl (Nat.le_of_ble_eq_true rfl) (by decide) ?_
  refine z_if_ne_b 13 C dX10_readWhoTold_4 (by decide) (fun h1 => ?_) (fun h1 => ?_)
  ·
    refine z_aload_n C dX10_readWhoTold_13 0 rfl ?_
    refine z_aload_n C dX10_readWhoTold_14 0 rfl ?_
    refine z_aload_n C dX10_readWhoTold_15 0 rfl ?_
    refine z_getR C dX10_readWhoTold_16 fX10_30 rfl (kd_57 hS) (r_57_19 hS) ?_
    refine z_iconst C dX10_readWhoTold_19 ?_
    refine z_aload_n C dX10_readWhoTold_20 0 rfl ?_
    refine z_getR C dX10_readWhoTold_21 fX10_16 rfl (kd_57 hS) (r_57_15 hS) ?_
    refine z_iconst C dX10_readWhoTold_24 ?_
    refine z_iald (q := 0) C dX10_readWhoTold_25 (ka_60 hS) rfl (by decide) ?_
    refine z_cVi (st := [.ref (G.2.2 + 57)]) C dX10_readWhoTold_26 mX10_195 (kd_57 hS) (qX10_findIn64 hC 0 (gi I 60 0) hS (by have := gi_rng I 60 0; omega)) rfl rfl (Nat.le_of_ble_eq_true rfl) (by decide) ?_
    refine z_putI C dX10_readWhoTold_29 fX10_158 rfl rfl (kd_57 hS) rfl rfl ?_
    refine z_aload_n C dX10_readWhoTold_32 0 rfl ?_
    refine z_getI C dX10_readWhoTold_33 fX10_158 rfl (kd_57 hS) ?_
    refine z_eqi (fd J 64 0 (gi I 60 0)) (gi_wi_eq (x := fd J 64 0 (gi I 60 0)) _ _ _ (fd_rng _ _ _ _)) ?_
    refine z_iconst C dX10_readWhoTold_36 ?_
    refine z_icmp_ne 48 C dX10_readWhoTold_37 (by decide) (fd_rng _ _ _ _) (by decide) (fun h2 => ?_) (fun h2 => ?_)
    ·
      refine z_iconst C dX10_readWhoTold_48 ?_
      refine z_goto 53 C dX10_readWhoTold_49 (by decide) ?_
      have hf3 : fX10_readWhoTold (I, J) = (true, (wi I 57 13 (fd J 64 0 (gi I 60 0))), J) := (by simp only [fX10_readWhoTold, if_pos h1, if_neg h2])
      exact z_zreturnx C dX10_readWhoTold_53 rfl (by rw [hf3]; rfl) (by rw [hf3])
    ·
      refine z_aload_n C dX10_readWhoTold_40 0 rfl ?_
      refine z_iconst C dX10_readWhoTold_41 ?_
      refine z_cVibF (st := []) (F := fX10_bad 3 ((wi I 57 13 (fd J 64 0 (gi I 60 0))), J)) C dX10_readWhoTold_42 mX10_151 (kd_57 hS) (qX10_bad hC 3 hS (by omega)) rfl rfl (Nat.le_of_ble_eq_true rfl) (by decide) (fun r4 I5 J6 hT7 => ?_)
      have hl8 : LX I5 := okX10_bad hT7 (by have hb := hl; unfold LX at hb ⊢; have : gi (wi I 57 13 (fd J 64 0 (gi I 60 0))) 57 3 = gi I 57 3 := (gi_wi_nk _ _ _ (by decide)); have : gi (wi I 57 13 (fd J 64 0 (gi I 60 0))) 57 5 = gi I 57 5 := (gi_wi_nk _ _ _ (by decide)); have : gi (wi I 57 13 (fd J 64 0 (gi I 60 0))) 60 0 = gi I 60 0 := (gi_wi_na _ _ _ _ (by decide)); have : gi (wi I 57 13 (fd J 64 0 (gi I 60 0))) 60 1 = gi I 60 1 := (gi_wi_na _ _ _ _ (by decide)); have : gi (wi I 57 13 (fd J 64 0 (gi I 60 0))) 59 0 = gi I 59 0 := (gi_wi_na _ _ _ _ (by decide)); have : gi (wi I 57 13 (fd J 64 0 (gi I 60 0))) 57 24 = gi I 57 24 := (gi_wi_nk _ _ _ (by decide)); omega); have hbhl8 := hl8; unfold LX at hbhl8
      refine z_if_eq_b 52 C dX10_readWhoTold_45 (by decide) (fun h9 => ?_) (fun h9 => ?_)
      ·
        refine z_iconst C dX10_readWhoTold_52 ?_
        have hf10 : fX10_readWhoTold (I, J) = (false, I5, J6) := (by simp only [fX10_readWhoTold, if_pos h1, if_pos h2, hT7, if_neg h9])
        exact z_zreturnx C dX10_readWhoTold_53 rfl (by rw [hf10]; rfl) (by rw [hf10])
      ·
        refine z_iconst C dX10_readWhoTold_48 ?_
        refine z_goto 53 C dX10_readWhoTold_49 (by decide) ?_
        have hf11 : fX10_readWhoTold (I, J) = (true, I5, J6) := (by simp only [fX10_readWhoTold, if_pos h1, if_pos h2, hT7, if_pos h9])
        exact z_zreturnx C dX10_readWhoTold_53 rfl (by rw [hf11]; rfl) (by rw [hf11])
  ·
    refine z_aload_n C dX10_readWhoTold_7 0 rfl ?_
    refine z_iconst C dX10_readWhoTold_8 ?_
    refine z_cVibF (st := []) (F := fX10_bad 1 (I, J)) C dX10_readWhoTold_9 mX10_151 (kd_57 hS) (qX10_bad hC 1 hS (by omega)) rfl rfl (Nat.le_of_ble_eq_true rfl) (by decide) (fun r12 I13 J14 hT15 => ?_)
    have hl16 : LX I13 := okX10_bad hT15 hl; have hbhl16 := hl16; unfold LX at hbhl16
    have hf17 : fX10_readWhoTold (I, J) = (decide (r12 = true), I13, J14) := (by simp only [fX10_readWhoTold, if_neg h1, hT15])
    exact z_zreturnx C dX10_readWhoTold_12 (b2_nar _) (by rw [hf17]; simp [b2]) (by rw [hf17])

