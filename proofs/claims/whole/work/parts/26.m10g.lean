theorem nxX10_lay {I : Mi} {J : Mj} {r0 : Int} {I0 : Mi} {J0 : Mj} (h : fX10_lay (I, J) = (r0, I0, J0)) (hn : NX (I 59)) : NX (I0 59) := by
  have key : ∀ k, k ≠ 4 → k ≠ 5 → k ≠ 6 → k ≠ 110 → k ≠ 111 → gn (I0 59) k = gn (I 59) k := fun k h1 h2 h3 h4 h5 => by
    unfold gn; rw [frX10_lay h 59 k ⟨by omega, by omega, by omega, by omega, by omega, by omega⟩]
  have key2 : (0 ≤ gn (I0 59) 4 ∧ gn (I0 59) 4 ≤ 200) ∧ (0 ≤ gn (I0 59) 5 ∧ gn (I0 59) 5 ≤ 999) ∧ (0 ≤ gn (I0 59) 6 ∧ gn (I0 59) 6 ≤ 9) := by
    unfold fX10_lay at h
    simp only at h
    split at h
    · obtain ⟨⟨r2, I2, J2⟩, hq⟩ : ∃ q, q = fX10_plain59 ((wi I 57 22 1), J) := ⟨_, rfl⟩
      rw [← hq] at h
      unfold fX10_plain59 at hq
      simp only [Prod.mk.injEq] at h hq
      obtain ⟨-, hI, -⟩ := h
      obtain ⟨-, hI2, -⟩ := hq
      rw [← hI, hI2]
      refine ⟨?_, ?_, ?_⟩
      · rw [← gi_gn, gi_wi_nk _ _ _ (by decide), gi_wi_nk _ _ _ (by decide), gi_wi_nk _ _ _ (by decide), gi_wi_nk _ _ _ (by decide), gi_wi_eq _ _ _ (by decide)]; decide
      · rw [← gi_gn, gi_wi_nk _ _ _ (by decide), gi_wi_nk _ _ _ (by decide), gi_wi_nk _ _ _ (by decide), gi_wi_eq _ _ _ (by decide)]; decide
      · rw [← gi_gn, gi_wi_nk _ _ _ (by decide), gi_wi_nk _ _ _ (by decide), gi_wi_eq _ _ _ (by decide)]; decide
    · simp only [Prod.mk.injEq] at h
      obtain ⟨-, hI, -⟩ := h
      rw [← hI]; exact ⟨hn.1.2.1, hn.1.2.2.1, hn.1.2.2.2.1⟩
  obtain ⟨⟨a1, a2, a3, a4, a5⟩, b1, b2, b3, b4, b5, b6⟩ := hn
  unfold NX
  have e0 := key 0 (by decide) (by decide) (by decide) (by decide) (by decide)
  have e1 := key 1 (by decide) (by decide) (by decide) (by decide) (by decide)
  have e3 := key 3 (by decide) (by decide) (by decide) (by decide) (by decide)
  have e108 := key 108 (by decide) (by decide) (by decide) (by decide) (by decide)
  have e112 := key 112 (by decide) (by decide) (by decide) (by decide) (by decide)
  have e113 := key 113 (by decide) (by decide) (by decide) (by decide) (by decide)
  rw [e0, e1, e3, e108, e112, e113]
  refine ⟨⟨a1, key2.1, key2.2.1, key2.2.2, fun q h0 h1 => ?_⟩, b1, b2, b3, b4, b5, fun q h0 h1 => ?_⟩
  · rw [key _ (by omega) (by omega) (by omega) (by omega) (by omega), key _ (by omega) (by omega) (by omega) (by omega) (by omega)]; exact a5 q h0 h1
  · rw [key _ (by omega) (by omega) (by omega) (by omega) (by omega), key _ (by omega) (by omega) (by omega) (by omega) (by omega)]
    refine ⟨(b6 q h0 h1).1, (b6 q h0 h1).2.1, fun i h2 h3 => ?_⟩
    rw [key _ (by omega) (by omega) (by omega) (by omega) (by omega), key _ (by omega) (by omega) (by omega) (by omega) (by omega)]
    exact (b6 q h0 h1).2.2 i h2 h3

noncomputable def fX10_end (w : Int) (S : Mi × Mj) : Bool × Mi × Mj :=
  match S with
  | (I, J) =>
    if w < 0 then
      (false, (wi I 57 0 0), J)
    else
      if w ≤ (gi I 57 2) then
        (true, (wi (wi I 57 0 0) 57 2 w), J)
      else
        (false, (wi I 57 0 0), J)
theorem frX10_end {w : Int} {S : Mi × Mj} {r0 : Bool} {I0 : Mi} {J0 : Mj} (h : fX10_end w S = (r0, I0, J0)) (aq kq : Nat) (haq : ¬ (aq = 57 ∧ kq = 0) ∧ ¬ (aq = 57 ∧ kq = 2)) : I0 aq kq = S.1 aq kq := by
  obtain ⟨I, J⟩ := S
  unfold fX10_end at h
  try simp only at h
  by_cases hq1 : w < 0
  · simp only [if_pos hq1] at h
    simp only [Prod.mk.injEq] at h
    obtain ⟨-, hI, hJ⟩ := h
    exact (congrFun (congrFun hI aq) kq).symm.trans (Eq.trans (wi_nc _ _ haq.1) rfl)
  · simp only [if_neg hq1] at h
    by_cases hq2 : w ≤ (gi I 57 2)
    · simp only [if_pos hq2] at h
      simp only [Prod.mk.injEq] at h
      obtain ⟨-, hI, hJ⟩ := h
      exact (congrFun (congrFun hI aq) kq).symm.trans (Eq.trans (wi_nc _ _ haq.2) (Eq.trans (wi_nc _ _ haq.1) rfl))
    · simp only [if_neg hq2] at h
      simp only [Prod.mk.injEq] at h
      obtain ⟨-, hI, hJ⟩ := h
      exact (congrFun (congrFun hI aq) kq).symm.trans (Eq.trans (wi_nc _ _ haq.1) rfl)
theorem fjX10_end {w : Int} {S : Mi × Mj} {r0 : Bool} {I0 : Mi} {J0 : Mj} (h : fX10_end w S = (r0, I0, J0)) (aq kq : Nat) (haq : True) : J0 aq kq = S.2 aq kq := by
  obtain ⟨I, J⟩ := S
  unfold fX10_end at h
  try simp only at h
  by_cases hq1 : w < 0
  · simp only [if_pos hq1] at h
    simp only [Prod.mk.injEq] at h
    obtain ⟨-, hI, hJ⟩ := h
    exact (congrFun (congrFun hJ aq) kq).symm.trans rfl
  · simp only [if_neg hq1] at h
    by_cases hq2 : w ≤ (gi I 57 2)
    · simp only [if_pos hq2] at h
      simp only [Prod.mk.injEq] at h
      obtain ⟨-, hI, hJ⟩ := h
      exact (congrFun (congrFun hJ aq) kq).symm.trans rfl
    · simp only [if_neg hq2] at h
      simp only [Prod.mk.injEq] at h
      obtain ⟨-, hI, hJ⟩ := h
      exact (congrFun (congrFun hJ aq) kq).symm.trans rfl
set_option maxHeartbeats 4000000 in
set_option maxRecDepth 100000 in
theorem qX10_end {G : Gx} {σ : State} (hC : Cz G σ) {sh : Sh} {I : Mi} {J : Mj} (w : Int) (hS : St sh) (rw : -2147483648 ≤ w ∧ w < 2147483648) : Ce G σ 1 yX10_end cX10_end 2 (some .boolean) [.ref (G.2.2 + 57), .int (iv (w))] (sh, I, J) 0 0 (some (.int (iv (b2 ((fX10_end w (I, J)).1 = true))))) (sh, (fX10_end w (I, J)).2.1, (fX10_end w (I, J)).2.2) := by
  refine Ct.of hC (by decide +kernel) (Nat.le_of_ble_eq_true rfl) ?_
  intro p l e R s m args below meth c C
  show Jz G σ p l e R s m args below meth c 2 0 0 (Qx (some (.int (iv (b2 ((fX10_end w (I, J)).1 = true))))) (sh, (fX10_end w (I, J)).2.1, (fX10_end w (I, J)).2.2)) (sh, I, J) 0 0 0 [(0, .ref (G.2.2 + 57)), (1, .int (iv (w)))] []
  refine z_aload_n C dX10_end_0 0 rfl ?_
  refine z_iconst C dX10_end_1 ?_
  refine z_putI C dX10_end_2 fX10_83 rfl rfl (kd_57 hS) rfl rfl ?_
  refine z_iload_n C dX10_end_5 1 rfl ?_
  refine z_if_lt 17 C dX10_end_6 (by decide) (by omega) (fun h1 => ?_) (fun h1 => ?_)
  ·
    refine z_iconst C dX10_end_17 ?_
    have hf2 : fX10_end w (I, J) = (false, (wi I 57 0 0), J) := (by simp only [fX10_end, if_pos h1])
    exact z_zreturnx C dX10_end_18 rfl (by rw [hf2]; rfl) (by rw [hf2])
  ·
    refine z_iload_n C dX10_end_9 1 rfl ?_
    refine z_aload_n C dX10_end_10 0 rfl ?_
    refine z_getI C dX10_end_11 fX10_86 rfl (kd_57 hS) ?_
    refine z_eqi (gi I 57 2) (gi_wi_nk _ _ _ (by decide)) ?_
    refine z_icmp_le 19 C dX10_end_14 (by decide) (by omega) (gi_rng _ _ _) (fun h3 => ?_) (fun h3 => ?_)
    ·
      refine z_aload_n C dX10_end_19 0 rfl ?_
      refine z_iload_n C dX10_end_20 1 rfl ?_
      refine z_putI C dX10_end_21 fX10_86 rfl rfl (kd_57 hS) rfl rfl ?_
      refine z_iconst C dX10_end_24 ?_
      have hf4 : fX10_end w (I, J) = (true, (wi (wi I 57 0 0) 57 2 w), J) := (by simp only [fX10_end, if_neg h1, if_pos h3])
      exact z_zreturnx C dX10_end_25 rfl (by rw [hf4]; rfl) (by rw [hf4])
    ·
      refine z_iconst C dX10_end_17 ?_
      have hf5 : fX10_end w (I, J) = (false, (wi I 57 0 0), J) := (by simp only [fX10_end, if_neg h1, if_neg h3])
      exact z_zreturnx C dX10_end_18 rfl (by rw [hf5]; rfl) (by rw [hf5])

noncomputable def fX10_fault (S : Mi × Mj) : Int × Mi × Mj :=
  match S with
  | (I, J) =>
    (gi I 57 10, (wi I 57 0 0), J)
theorem frX10_fault {S : Mi × Mj} {r0 : Int} {I0 : Mi} {J0 : Mj} (h : fX10_fault  S = (r0, I0, J0)) (aq kq : Nat) (haq : ¬ (aq = 57 ∧ kq = 0)) : I0 aq kq = S.1 aq kq := by
  obtain ⟨I, J⟩ := S
  unfold fX10_fault at h
  try simp only at h
  simp only [Prod.mk.injEq] at h
  obtain ⟨-, hI, hJ⟩ := h
  exact (congrFun (congrFun hI aq) kq).symm.trans (Eq.trans (wi_nc _ _ haq) rfl)
theorem fjX10_fault {S : Mi × Mj} {r0 : Int} {I0 : Mi} {J0 : Mj} (h : fX10_fault  S = (r0, I0, J0)) (aq kq : Nat) (haq : True) : J0 aq kq = S.2 aq kq := by
  obtain ⟨I, J⟩ := S
  unfold fX10_fault at h
  try simp only at h
  simp only [Prod.mk.injEq] at h
  obtain ⟨-, hI, hJ⟩ := h
  exact (congrFun (congrFun hJ aq) kq).symm.trans rfl
set_option maxHeartbeats 4000000 in
set_option maxRecDepth 100000 in
theorem qX10_fault {G : Gx} {σ : State} (hC : Cz G σ) {sh : Sh} {I : Mi} {J : Mj}  (hS : St sh) : Ce G σ 1 yX10_fault cX10_fault 1 (some .int) [.ref (G.2.2 + 57)] (sh, I, J) 0 0 (some (.int (iv ((fX10_fault (I, J)).1)))) (sh, (fX10_fault (I, J)).2.1, (fX10_fault (I, J)).2.2) := by
  refine Ct.of hC (by decide +kernel) (Nat.le_of_ble_eq_true rfl) ?_
  intro p l e R s m args below meth c C
  show Jz G σ p l e R s m args below meth c 1 0 0 (Qx (some (.int (iv ((fX10_fault (I, J)).1)))) (sh, (fX10_fault (I, J)).2.1, (fX10_fault (I, J)).2.2)) (sh, I, J) 0 0 0 [(0, .ref (G.2.2 + 57))] []
  refine z_aload_n C dX10_fault_0 0 rfl ?_
  refine z_iconst C dX10_fault_1 ?_
  refine z_putI C dX10_fault_2 fX10_83 rfl rfl (kd_57 hS) rfl rfl ?_
  refine z_aload_n C dX10_fault_5 0 rfl ?_
  refine z_getI C dX10_fault_6 fX10_145 rfl (kd_57 hS) ?_
  refine z_eqi (gi I 57 10) (gi_wi_nk _ _ _ (by decide)) ?_
  have hf1 : fX10_fault (I, J) = (gi I 57 10, (wi I 57 0 0), J) := (by simp only [fX10_fault])
  exact z_ireturnx C dX10_fault_9 (by rw [hf1]) (by rw [hf1])

noncomputable def fX10_sales (S : Mi × Mj) : Int × Mi × Mj :=
  match S with
  | (I, J) =>
    (gi I 59 113, (wi I 57 0 0), J)
theorem frX10_sales {S : Mi × Mj} {r0 : Int} {I0 : Mi} {J0 : Mj} (h : fX10_sales  S = (r0, I0, J0)) (aq kq : Nat) (haq : ¬ (aq = 57 ∧ kq = 0)) : I0 aq kq = S.1 aq kq := by
  obtain ⟨I, J⟩ := S
  unfold fX10_sales at h
  try simp only at h
  simp only [Prod.mk.injEq] at h
  obtain ⟨-, hI, hJ⟩ := h
  exact (congrFun (congrFun hI aq) kq).symm.trans (Eq.trans (wi_nc _ _ haq) rfl)
theorem fjX10_sales {S : Mi × Mj} {r0 : Int} {I0 : Mi} {J0 : Mj} (h : fX10_sales  S = (r0, I0, J0)) (aq kq : Nat) (haq : True) : J0 aq kq = S.2 aq kq := by
  obtain ⟨I, J⟩ := S
  unfold fX10_sales at h
  try simp only at h
  simp only [Prod.mk.injEq] at h
  obtain ⟨-, hI, hJ⟩ := h
  exact (congrFun (congrFun hJ aq) kq).symm.trans rfl
set_option maxHeartbeats 4000000 in
set_option maxRecDepth 100000 in
theorem qX10_sales {G : Gx} {σ : State} (hC : Cz G σ) {sh : Sh} {I : Mi} {J : Mj}  (hS : St sh) : Ce G σ 1 yX10_sales cX10_sales 1 (some .int) [.ref (G.2.2 + 57)] (sh, I, J) 0 0 (some (.int (iv ((fX10_sales (I, J)).1)))) (sh, (fX10_sales (I, J)).2.1, (fX10_sales (I, J)).2.2) := by
  refine Ct.of hC (by decide +kernel) (Nat.le_of_ble_eq_true rfl) ?_
  intro p l e R s m args below meth c C
  show Jz G σ p l e R s m args below meth c 1 0 0 (Qx (some (.int (iv ((fX10_sales (I, J)).1)))) (sh, (fX10_sales (I, J)).2.1, (fX10_sales (I, J)).2.2)) (sh, I, J) 0 0 0 [(0, .ref (G.2.2 + 57))] []
  refine z_aload_n C dX10_sales_0 0 rfl ?_
  refine z_iconst C dX10_sales_1 ?_
  refine z_putI C dX10_sales_2 fX10_83 rfl rfl (kd_57 hS) rfl rfl ?_
  refine z_aload_n C dX10_sales_5 0 rfl ?_
  refine z_getR C dX10_sales_6 fX10_13 rfl (kd_57 hS) (r_57_14 hS) ?_
  refine z_bipush C dX10_sales_9 (by decide) ?_
  refine z_iald (q := 113) C dX10_sales_11 (ka_59 hS) rfl (by decide) ?_
  refine z_eqi (gi I 59 113) (gi_wi_na _ _ _ _ (by decide)) ?_
  have hf1 : fX10_sales (I, J) = (gi I 59 113, (wi I 57 0 0), J) := (by simp only [fX10_sales])
  exact z_ireturnx C dX10_sales_12 (by rw [hf1]) (by rw [hf1])

noncomputable def fX10_strokes (S : Mi × Mj) : Int × Mi × Mj :=
  match S with
  | (I, J) =>
    (gi I 59 112, (wi I 57 0 0), J)
theorem frX10_strokes {S : Mi × Mj} {r0 : Int} {I0 : Mi} {J0 : Mj} (h : fX10_strokes  S = (r0, I0, J0)) (aq kq : Nat) (haq : ¬ (aq = 57 ∧ kq = 0)) : I0 aq kq = S.1 aq kq := by
  obtain ⟨I, J⟩ := S
  unfold fX10_strokes at h
  try simp only at h
  simp only [Prod.mk.injEq] at h
  obtain ⟨-, hI, hJ⟩ := h
  exact (congrFun (congrFun hI aq) kq).symm.trans (Eq.trans (wi_nc _ _ haq) rfl)
theorem fjX10_strokes {S : Mi × Mj} {r0 : Int} {I0 : Mi} {J0 : Mj} (h : fX10_strokes  S = (r0, I0, J0)) (aq kq : Nat) (haq : True) : J0 aq kq = S.2 aq kq := by
  obtain ⟨I, J⟩ := S
  unfold fX10_strokes at h
  try simp only at h
  simp only [Prod.mk.injEq] at h
  obtain ⟨-, hI, hJ⟩ := h
  exact (congrFun (congrFun hJ aq) kq).symm.trans rfl
set_option maxHeartbeats 4000000 in
set_option maxRecDepth 100000 in
theorem qX10_strokes {G : Gx} {σ : State} (hC : Cz G σ) {sh : Sh} {I : Mi} {J : Mj}  (hS : St sh) : Ce G σ 1 yX10_strokes cX10_strokes 1 (some .int) [.ref (G.2.2 + 57)] (sh, I, J) 0 0 (some (.int (iv ((fX10_strokes (I, J)).1)))) (sh, (fX10_strokes (I, J)).2.1, (fX10_strokes (I, J)).2.2) := by
  refine Ct.of hC (by decide +kernel) (Nat.le_of_ble_eq_true rfl) ?_
  intro p l e R s m args below meth c C
  show Jz G σ p l e R s m args below meth c 1 0 0 (Qx (some (.int (iv ((fX10_strokes (I, J)).1)))) (sh, (fX10_strokes (I, J)).2.1, (fX10_strokes (I, J)).2.2)) (sh, I, J) 0 0 0 [(0, .ref (G.2.2 + 57))] []
  refine z_aload_n C dX10_strokes_0 0 rfl ?_
  refine z_iconst C dX10_strokes_1 ?_
  refine z_putI C dX10_strokes_2 fX10_83 rfl rfl (kd_57 hS) rfl rfl ?_
  refine z_aload_n C dX10_strokes_5 0 rfl ?_
  refine z_getR C dX10_strokes_6 fX10_13 rfl (kd_57 hS) (r_57_14 hS) ?_
  refine z_bipush C dX10_strokes_9 (by decide) ?_
  refine z_iald (q := 112) C dX10_strokes_11 (ka_59 hS) rfl (by decide) ?_
  refine z_eqi (gi I 59 112) (gi_wi_na _ _ _ _ (by decide)) ?_
  have hf1 : fX10_strokes (I, J) = (gi I 59 112, (wi I 57 0 0), J) := (by simp only [fX10_strokes])
  exact z_ireturnx C dX10_strokes_12 (by rw [hf1]) (by rw [hf1])

noncomputable def fX10_luck (S : Mi × Mj) : Int × Mi × Mj :=
  match S with
  | (I, J) =>
    match fX10_lay ((wi I 57 0 0), J) with
    | (r1, I2, J3) =>
      (gX10_luckOf (I2 59), I2, J3)
theorem frX10_luck {S : Mi × Mj} {r0 : Int} {I0 : Mi} {J0 : Mj} (h : fX10_luck  S = (r0, I0, J0)) (aq kq : Nat) (haq : ¬ (aq = 57 ∧ kq = 0) ∧ ¬ (aq = 57 ∧ kq = 22) ∧ ¬ (aq = 59 ∧ kq = 110) ∧ ¬ (aq = 59 ∧ kq = 111) ∧ ¬ (aq = 59 ∧ kq = 4) ∧ ¬ (aq = 59 ∧ kq = 5) ∧ ¬ (aq = 59 ∧ kq = 6)) : I0 aq kq = S.1 aq kq := by
  obtain ⟨I, J⟩ := S
  unfold fX10_luck at h
  try simp only at h
  obtain ⟨⟨r1, I2, J3⟩, hq1⟩ : ∃ q, q = fX10_lay ((wi I 57 0 0), J) := ⟨_, rfl⟩
  rw [← hq1] at h; try simp only at h
  simp only [Prod.mk.injEq] at h
  obtain ⟨-, hI, hJ⟩ := h
  exact (congrFun (congrFun hI aq) kq).symm.trans (Eq.trans (frX10_lay hq1.symm aq kq ⟨haq.2.1, haq.2.2.1, haq.2.2.2.1, haq.2.2.2.2.1, haq.2.2.2.2.2.1, haq.2.2.2.2.2.2⟩) (Eq.trans (wi_nc _ _ haq.1) rfl))
theorem fjX10_luck {S : Mi × Mj} {r0 : Int} {I0 : Mi} {J0 : Mj} (h : fX10_luck  S = (r0, I0, J0)) (aq kq : Nat) (haq : True) : J0 aq kq = S.2 aq kq := by
  obtain ⟨I, J⟩ := S
  unfold fX10_luck at h
  try simp only at h
  obtain ⟨⟨r1, I2, J3⟩, hq1⟩ : ∃ q, q = fX10_lay ((wi I 57 0 0), J) := ⟨_, rfl⟩
  rw [← hq1] at h; try simp only at h
  simp only [Prod.mk.injEq] at h
  obtain ⟨-, hI, hJ⟩ := h
  exact (congrFun (congrFun hJ aq) kq).symm.trans (Eq.trans (fjX10_lay hq1.symm aq kq trivial) rfl)
set_option maxHeartbeats 4000000 in
set_option maxRecDepth 100000 in
theorem qX10_luck {G : Gx} {σ : State} (hC : Cz G σ) {sh : Sh} {I : Mi} {J : Mj}  (hS : St sh) (hn : NX (I 59)) : Ce G σ 4 yX10_luck cX10_luck 1 (some .int) [.ref (G.2.2 + 57)] (sh, I, J) 0 0 (some (.int (iv ((fX10_luck (I, J)).1)))) (sh, (fX10_luck (I, J)).2.1, (fX10_luck (I, J)).2.2) := by
  refine Ct.of hC (by decide +kernel) (Nat.le_of_ble_eq_true rfl) ?_
  intro p l e R s m args below meth c C
  show Jz G σ p l e R s m args below meth c 1 0 0 (Qx (some (.int (iv ((fX10_luck (I, J)).1)))) (sh, (fX10_luck (I, J)).2.1, (fX10_luck (I, J)).2.2)) (sh, I, J) 0 0 0 [(0, .ref (G.2.2 + 57))] []
  refine z_aload_n C dX10_luck_0 0 rfl ?_
  refine z_iconst C dX10_luck_1 ?_
  refine z_putI C dX10_luck_2 fX10_83 rfl rfl (kd_57 hS) rfl rfl ?_
  refine z_aload_n C dX10_luck_5 0 rfl ?_
  refine z_cVvF (st := []) (F := fX10_lay ((wi I 57 0 0), J)) C dX10_luck_6 mX10_167 (kd_57 hS) (qX10_lay hC  hS) rfl rfl (Nat.le_of_ble_eq_true rfl) (by decide) (fun r1 I2 J3 hT4 => ?_)
  have hn5 : NX (I2 59) := nxX10_lay hT4 hn
  refine z_aload_n C dX10_luck_9 0 rfl ?_
  refine z_cVi (st := []) C dX10_luck_10 mX10_288 (kd_57 hS) (qX10_luckOf hC  hS hn5) rfl rfl (Nat.le_of_ble_eq_true rfl) (by decide) ?_
  have hf6 : fX10_luck (I, J) = (gX10_luckOf (I2 59), I2, J3) := (by simp only [fX10_luck, hT4])
  exact z_ireturnx C dX10_luck_13 (by rw [hf6]) (by rw [hf6])

set_option maxHeartbeats 4000000 in
set_option maxRecDepth 100000 in
theorem qX10_isFull {G : Gx} {σ : State} (hC : Cz G σ) {sh : Sh} {I : Mi} {J : Mj} (v : Int) (hS : St sh) (hv : 0 ≤ v ∧ v ≤ 100) (hs : 0 ≤ gi I 59 112 ∧ gi I 59 112 ≤ 360) : Ce G σ 1 yX10_isFull cX10_isFull 2 (some .boolean) [.ref (G.2.2 + 57), .int (iv (v))] (sh, I, J) 0 0 (some (.int (iv (b2 (500 < gi I 59 112 + v))))) (sh, I, J) := by
  refine Ct.of hC (by decide +kernel) (Nat.le_of_ble_eq_true rfl) ?_
  intro p l e R s m args below meth c C
  show Jz G σ p l e R s m args below meth c 2 0 0 (Qx (some (.int (iv (b2 (500 < gi I 59 112 + v))))) (sh, I, J)) (sh, I, J) 0 0 0 [(0, .ref (G.2.2 + 57)), (1, .int (iv (v)))] []
  refine z_aload_n C dX10_isFull_0 0 rfl ?_
  refine z_getR C dX10_isFull_1 fX10_13 rfl (kd_57 hS) (r_57_14 hS) ?_
  refine z_bipush C dX10_isFull_4 (by decide) ?_
  refine z_iald (q := 112) C dX10_isFull_6 (ka_59 hS) rfl (by decide) ?_
  refine z_iload_n C dX10_isFull_7 1 rfl ?_
  refine z_iadd C dX10_isFull_8 ?_
  refine z_sipush C dX10_isFull_9 (by decide) ?_
  refine z_icmp_le 19 C dX10_isFull_12 (by decide) (by have := gi_rng I 59 112; omega) (by decide) (fun h1 => ?_) (fun h1 => ?_)
  ·
    refine z_iconst C dX10_isFull_19 ?_
    exact z_zreturnx C dX10_isFull_20 rfl (b2_f (by omega)) rfl
  ·
    refine z_iconst C dX10_isFull_15 ?_
    refine z_goto 20 C dX10_isFull_16 (by decide) ?_
    exact z_zreturnx C dX10_isFull_20 rfl (b2_t (by omega)) rfl

noncomputable def gX10_wrongAt (q : Int) (w : Int) (N59 : Nat → Int32) : Int :=
  gX10_wrongStroke (gn N59 (120 + 32 * q + 0).toNat) (gn N59 (120 + 32 * q + 2).toNat) w N59
theorem gX10_wrongAt_rng (q : Int) (w : Int) (N59 : Nat → Int32) : -2147483648 ≤ gX10_wrongAt q w N59 ∧ gX10_wrongAt q w N59 < 2147483648 := by
  unfold gX10_wrongAt
  try simp only
  exact gX10_wrongStroke_rng _ _ _ _
set_option maxHeartbeats 4000000 in
set_option maxRecDepth 100000 in
theorem qX10_wrongAt {G : Gx} {σ : State} (hC : Cz G σ) {sh : Sh} {I : Mi} {J : Mj} (q w : Int) (hS : St sh) (hn : NX (I 59)) (hq : 0 ≤ q ∧ q < gi I 59 108) (hw : 0 ≤ w ∧ w < 4) (hg : 0 ≤ gi I 59 (120 + 32 * q + 0).toNat ∧ gi I 59 (120 + 32 * q + 0).toNat ≤ 9999) : Ce G σ 3 yX10_wrongAt cX10_wrongAt 3 (some .int) [.ref (G.2.2 + 57), .int (iv (q)), .int (iv (w))] (sh, I, J) 0 0 (some (.int (iv (gX10_wrongAt q w (I 59))))) (sh, I, J) := by
  refine Ct.of hC (by decide +kernel) (Nat.le_of_ble_eq_true rfl) ?_
  intro p l e R s m args below meth c C
  show Jz G σ p l e R s m args below meth c 3 0 0 (Qx (some (.int (iv (gX10_wrongAt q w (I 59))))) (sh, I, J)) (sh, I, J) 0 0 0 [(0, .ref (G.2.2 + 57)), (1, .int (iv (q))), (2, .int (iv (w)))] []
  have hn0 := nx_c hn
  have hn1 := nx_p hn
  have hn2 := nx_m hn
  have hn3 := nx_s hn
  have hn4 := nx_sl hn
  have ho := (nx_ls hn hw.1 hw.2).1
  refine z_aload_n C dX10_wrongAt_0 0 rfl ?_
  refine z_aload_n C dX10_wrongAt_1 0 rfl ?_
  refine z_iload_n C dX10_wrongAt_2 1 rfl ?_
  refine z_iconst C dX10_wrongAt_3 ?_
  refine z_cVi (st := [.ref (G.2.2 + 57)]) C dX10_wrongAt_4 mX10_256 (kd_57 hS) (qX10_ofCoin hC q 0 hS (by omega) (by omega)) rfl rfl (Nat.le_of_ble_eq_true rfl) (by decide) ?_
  refine z_aload_n C dX10_wrongAt_7 0 rfl ?_
  refine z_iload_n C dX10_wrongAt_8 1 rfl ?_
  refine z_iconst C dX10_wrongAt_9 ?_
  refine z_cVi (st := [.int (iv (gi I 59 (120 + 32 * q + 0).toNat)), .ref (G.2.2 + 57)]) C dX10_wrongAt_10 mX10_256 (kd_57 hS) (qX10_ofCoin hC q 2 hS (by omega) (by omega)) rfl rfl (Nat.le_of_ble_eq_true rfl) (by decide) ?_
  refine z_iload_n C dX10_wrongAt_13 2 rfl ?_
  refine z_cVi (st := []) C dX10_wrongAt_14 mX10_265 (kd_57 hS) (qX10_wrongStroke hC (gi I 59 (120 + 32 * q + 0).toNat) (gi I 59 (120 + 32 * q + 2).toNat) w hS hw (by have := gi_rng I 59 ((120 + 32 * q + 0).toNat); have := gi_rng I 59 (120 + 32 * q + 0).toNat; omega) (by have := gi_rng I 59 ((32 + 3 * w + 0).toNat); have := gi_rng I 59 (32 + 3 * w + 0).toNat; omega) (by have := gi_rng I 59 ((120 + 32 * q + 2).toNat); have := gi_rng I 59 (120 + 32 * q + 2).toNat; omega)) rfl rfl (Nat.le_of_ble_eq_true rfl) (by decide) ?_
  have hf1 : gX10_wrongAt q w (I 59) = gX10_wrongStroke (gi I 59 (120 + 32 * q + 0).toNat) (gi I 59 (120 + 32 * q + 2).toNat) w (I 59) := (by exact rfl)
  exact z_ireturnx C dX10_wrongAt_17 hf1.symm rfl

noncomputable def gX10_faceFalse (q : Int) (i : Int) (N59 : Nat → Int32) : Int :=
  gn N59 (((1400 + (6 * (gn N59 (120 + 32 * q + ((4 + (3 * i)) + 2)).toNat))) + 5).toNat)
theorem gX10_faceFalse_rng (q : Int) (i : Int) (N59 : Nat → Int32) : -2147483648 ≤ gX10_faceFalse q i N59 ∧ gX10_faceFalse q i N59 < 2147483648 := by
  unfold gX10_faceFalse
  try simp only
  exact gn_rng _ _
set_option maxHeartbeats 4000000 in
set_option maxRecDepth 100000 in
theorem qX10_faceFalse {G : Gx} {σ : State} (hC : Cz G σ) {sh : Sh} {I : Mi} {J : Mj} (q i : Int) (hS : St sh) (hn : NX (I 59)) (hq : 0 ≤ q ∧ q < gi I 59 108) (hi : 0 ≤ i ∧ i < gi I 59 (120 + 32 * q + 3).toNat) : Ce G σ 2 yX10_faceFalse cX10_faceFalse 3 (some .int) [.ref (G.2.2 + 57), .int (iv (q)), .int (iv (i))] (sh, I, J) 0 0 (some (.int (iv (gX10_faceFalse q i (I 59))))) (sh, I, J) := by
  refine Ct.of hC (by decide +kernel) (Nat.le_of_ble_eq_true rfl) ?_
  intro p l e R s m args below meth c C
  show Jz G σ p l e R s m args below meth c 3 0 0 (Qx (some (.int (iv (gX10_faceFalse q i (I 59))))) (sh, I, J)) (sh, I, J) 0 0 0 [(0, .ref (G.2.2 + 57)), (1, .int (iv (q))), (2, .int (iv (i)))] []
  have hn0 := nx_c hn
  have hn1 := nx_p hn
  have hn2 := nx_m hn
  have hn3 := nx_s hn
  have hn4 := nx_sl hn
  have hla := nx_la hn hq.1 hq.2
  have hfa := (nx_fa hn hq.1 hq.2 hi.1 hi.2).2
  rw [show 120 + 32 * q + 4 + 3 * i + 2 = 120 + 32 * q + (4 + 3 * i + 2) by omega] at hfa
  refine z_aload_n C dX10_faceFalse_0 0 rfl ?_
  refine z_getR C dX10_faceFalse_1 fX10_13 rfl (kd_57 hS) (r_57_14 hS) ?_
  refine z_sipush C dX10_faceFalse_4 (by decide) ?_
  refine z_bipush C dX10_faceFalse_7 (by decide) ?_
  refine z_aload_n C dX10_faceFalse_9 0 rfl ?_
  refine z_iload_n C dX10_faceFalse_10 1 rfl ?_
  refine z_iconst C dX10_faceFalse_11 ?_
  refine z_iconst C dX10_faceFalse_12 ?_
  refine z_iload_n C dX10_faceFalse_13 2 rfl ?_
  refine z_imul C dX10_faceFalse_14 ?_
  refine z_iadd C dX10_faceFalse_15 ?_
  refine z_iconst C dX10_faceFalse_16 ?_
  refine z_iadd C dX10_faceFalse_17 ?_
  refine z_cVi (st := [.int (iv (6)), .int (iv (1400)), .ref (G.2.2 + 59)]) C dX10_faceFalse_18 mX10_256 (kd_57 hS) (qX10_ofCoin hC q ((4 + (3 * i)) + 2) hS (by omega) (by omega)) rfl rfl (Nat.le_of_ble_eq_true rfl) (by decide) ?_
  refine z_imul C dX10_faceFalse_21 ?_
  refine z_iadd C dX10_faceFalse_22 ?_
  refine z_iconst C dX10_faceFalse_23 ?_
  refine z_iadd C dX10_faceFalse_24 ?_
  refine z_iald (q := ((1400 + (6 * (gi I 59 (120 + 32 * q + ((4 + (3 * i)) + 2)).toNat))) + 5).toNat) C dX10_faceFalse_25 (ka_59 hS) (by omega) (by omega) ?_
  have hf1 : gX10_faceFalse q i (I 59) = gi I 59 (((1400 + (6 * (gi I 59 (120 + 32 * q + ((4 + (3 * i)) + 2)).toNat))) + 5).toNat) := (by exact rfl)
  exact z_ireturnx C dX10_faceFalse_26 hf1.symm rfl

noncomputable def gX10_areUnfit (w : Int) (t : Int) (N59 : Nat → Int32) : Bool :=
  if w = t then
    true
  else
    if 0 < (gn N59 (8 + 3 * w + 2).toNat) then
      true
    else
      if (gn N59 (8 + 3 * t + 2).toNat) ≤ 0 then
        false
      else
        true
set_option maxHeartbeats 4000000 in
set_option maxRecDepth 100000 in
theorem qX10_areUnfit {G : Gx} {σ : State} (hC : Cz G σ) {sh : Sh} {I : Mi} {J : Mj} (w t : Int) (hS : St sh) (hw : 0 ≤ w ∧ w < 8) (ht : 0 ≤ t ∧ t < 8) : Ce G σ 2 yX10_areUnfit cX10_areUnfit 3 (some .boolean) [.ref (G.2.2 + 57), .int (iv (w)), .int (iv (t))] (sh, I, J) 0 0 (some (.int (iv (b2 (gX10_areUnfit w t (I 59) = true))))) (sh, I, J) := by
  refine Ct.of hC (by decide +kernel) (Nat.le_of_ble_eq_true rfl) ?_
  intro p l e R s m args below meth c C
  show Jz G σ p l e R s m args below meth c 3 0 0 (Qx (some (.int (iv (b2 (gX10_areUnfit w t (I 59) = true))))) (sh, I, J)) (sh, I, J) 0 0 0 [(0, .ref (G.2.2 + 57)), (1, .int (iv (w))), (2, .int (iv (t)))] []
  refine z_iload_n C dX10_areUnfit_0 1 rfl ?_
  refine z_iload_n C dX10_areUnfit_1 2 rfl ?_
  refine z_icmp_eq 23 C dX10_areUnfit_2 (by decide) (by omega) (by omega) (fun h1 => ?_) (fun h1 => ?_)
  ·
    refine z_iconst C dX10_areUnfit_23 ?_
    refine z_goto 28 C dX10_areUnfit_24 (by decide) ?_
    have hf2 : gX10_areUnfit w t (I 59) = true := (by exact (Eq.trans (if_pos h1) rfl))
    exact z_zreturnx C dX10_areUnfit_28 rfl (by rw [hf2]; rfl) rfl
  ·
    refine z_aload_n C dX10_areUnfit_5 0 rfl ?_
    refine z_iload_n C dX10_areUnfit_6 1 rfl ?_
    refine z_iconst C dX10_areUnfit_7 ?_
    refine z_cVi (st := []) C dX10_areUnfit_8 mX10_249 (kd_57 hS) (qX10_ofWho hC w 2 hS (by omega) (by omega)) rfl rfl (Nat.le_of_ble_eq_true rfl) (by decide) ?_
    refine z_if_gt 23 C dX10_areUnfit_11 (by decide) (gi_rng _ _ _) (fun h3 => ?_) (fun h3 => ?_)
    ·
      refine z_iconst C dX10_areUnfit_23 ?_
      refine z_goto 28 C dX10_areUnfit_24 (by decide) ?_
      have hf4 : gX10_areUnfit w t (I 59) = true := (by exact (Eq.trans (if_neg h1) (Eq.trans (if_pos h3) rfl)))
      exact z_zreturnx C dX10_areUnfit_28 rfl (by rw [hf4]; rfl) rfl
    ·
      refine z_aload_n C dX10_areUnfit_14 0 rfl ?_
      refine z_iload_n C dX10_areUnfit_15 2 rfl ?_
      refine z_iconst C dX10_areUnfit_16 ?_
      refine z_cVi (st := []) C dX10_areUnfit_17 mX10_249 (kd_57 hS) (qX10_ofWho hC t 2 hS (by omega) (by omega)) rfl rfl (Nat.le_of_ble_eq_true rfl) (by decide) ?_
      refine z_if_le 27 C dX10_areUnfit_20 (by decide) (gi_rng _ _ _) (fun h5 => ?_) (fun h5 => ?_)
      ·
        refine z_iconst C dX10_areUnfit_27 ?_
        have hf6 : gX10_areUnfit w t (I 59) = false := (by exact (Eq.trans (if_neg h1) (Eq.trans (if_neg h3) (Eq.trans (if_pos h5) rfl))))
        exact z_zreturnx C dX10_areUnfit_28 rfl (by rw [hf6]; rfl) rfl
      ·
        refine z_iconst C dX10_areUnfit_23 ?_
        refine z_goto 28 C dX10_areUnfit_24 (by decide) ?_
        have hf7 : gX10_areUnfit w t (I 59) = true := (by exact (Eq.trans (if_neg h1) (Eq.trans (if_neg h3) (Eq.trans (if_neg h5) rfl))))
        exact z_zreturnx C dX10_areUnfit_28 rfl (by rw [hf7]; rfl) rfl

noncomputable def fX10_count (w : Int) (S : Mi × Mj) : Int × Mi × Mj :=
  match S with
  | (I, J) =>
    match fX10_lay ((wi I 57 0 0), J) with
    | (r1, I2, J3) =>
      if w = 11 then
        (gi I 57 2, I2, J3)
      else
        if 0 ≤ w ∧ w ≤ 10 then
          if 7 ≤ w then
            if w = 7 then
              (gi I 59 108, I2, J3)
            else
              if w = 8 then
                (gi I 59 109, I2, J3)
              else
                if w = 9 then
                  (gi I2 59 110, I2, J3)
                else
                  (gi I2 59 111, I2, J3)
          else
            (gi I2 59 ((w).toNat), I2, J3)
        else
          (-1, I2, J3)
theorem frX10_count {w : Int} {S : Mi × Mj} {r0 : Int} {I0 : Mi} {J0 : Mj} (h : fX10_count w S = (r0, I0, J0)) (aq kq : Nat) (haq : ¬ (aq = 57 ∧ kq = 0) ∧ ¬ (aq = 57 ∧ kq = 22) ∧ ¬ (aq = 59 ∧ kq = 110) ∧ ¬ (aq = 59 ∧ kq = 111) ∧ ¬ (aq = 59 ∧ kq = 4) ∧ ¬ (aq = 59 ∧ kq = 5) ∧ ¬ (aq = 59 ∧ kq = 6)) : I0 aq kq = S.1 aq kq := by
  obtain ⟨I, J⟩ := S
  unfold fX10_count at h
  try simp only at h
  obtain ⟨⟨r1, I2, J3⟩, hq1⟩ : ∃ q, q = fX10_lay ((wi I 57 0 0), J) := ⟨_, rfl⟩
  rw [← hq1] at h; try simp only at h
  by_cases hq2 : w = 11
  · simp only [if_pos hq2] at h
    simp only [Prod.mk.injEq] at h
    obtain ⟨-, hI, hJ⟩ := h
    exact (congrFun (congrFun hI aq) kq).symm.trans (Eq.trans (frX10_lay hq1.symm aq kq ⟨haq.2.1, haq.2.2.1, haq.2.2.2.1, haq.2.2.2.2.1, haq.2.2.2.2.2.1, haq.2.2.2.2.2.2⟩) (Eq.trans (wi_nc _ _ haq.1) rfl))
  · simp only [if_neg hq2] at h
    by_cases hq3 : 0 ≤ w ∧ w ≤ 10
    · simp only [if_pos hq3] at h
      by_cases hq4 : 7 ≤ w
      · simp only [if_pos hq4] at h
        by_cases hq5 : w = 7
        · simp only [if_pos hq5] at h
          simp only [Prod.mk.injEq] at h
          obtain ⟨-, hI, hJ⟩ := h
          exact (congrFun (congrFun hI aq) kq).symm.trans (Eq.trans (frX10_lay hq1.symm aq kq ⟨haq.2.1, haq.2.2.1, haq.2.2.2.1, haq.2.2.2.2.1, haq.2.2.2.2.2.1, haq.2.2.2.2.2.2⟩) (Eq.trans (wi_nc _ _ haq.1) rfl))
        · simp only [if_neg hq5] at h
          by_cases hq6 : w = 8
          · simp only [if_pos hq6] at h
            simp only [Prod.mk.injEq] at h
            obtain ⟨-, hI, hJ⟩ := h
            exact (congrFun (congrFun hI aq) kq).symm.trans (Eq.trans (frX10_lay hq1.symm aq kq ⟨haq.2.1, haq.2.2.1, haq.2.2.2.1, haq.2.2.2.2.1, haq.2.2.2.2.2.1, haq.2.2.2.2.2.2⟩) (Eq.trans (wi_nc _ _ haq.1) rfl))
          · simp only [if_neg hq6] at h
            by_cases hq7 : w = 9
            · simp only [if_pos hq7] at h
              simp only [Prod.mk.injEq] at h
              obtain ⟨-, hI, hJ⟩ := h
              exact (congrFun (congrFun hI aq) kq).symm.trans (Eq.trans (frX10_lay hq1.symm aq kq ⟨haq.2.1, haq.2.2.1, haq.2.2.2.1, haq.2.2.2.2.1, haq.2.2.2.2.2.1, haq.2.2.2.2.2.2⟩) (Eq.trans (wi_nc _ _ haq.1) rfl))
            · simp only [if_neg hq7] at h
              simp only [Prod.mk.injEq] at h
              obtain ⟨-, hI, hJ⟩ := h
              exact (congrFun (congrFun hI aq) kq).symm.trans (Eq.trans (frX10_lay hq1.symm aq kq ⟨haq.2.1, haq.2.2.1, haq.2.2.2.1, haq.2.2.2.2.1, haq.2.2.2.2.2.1, haq.2.2.2.2.2.2⟩) (Eq.trans (wi_nc _ _ haq.1) rfl))
      · simp only [if_neg hq4] at h
        simp only [Prod.mk.injEq] at h
        obtain ⟨-, hI, hJ⟩ := h
        exact (congrFun (congrFun hI aq) kq).symm.trans (Eq.trans (frX10_lay hq1.symm aq kq ⟨haq.2.1, haq.2.2.1, haq.2.2.2.1, haq.2.2.2.2.1, haq.2.2.2.2.2.1, haq.2.2.2.2.2.2⟩) (Eq.trans (wi_nc _ _ haq.1) rfl))
    · simp only [if_neg hq3] at h
      simp only [Prod.mk.injEq] at h
      obtain ⟨-, hI, hJ⟩ := h
      exact (congrFun (congrFun hI aq) kq).symm.trans (Eq.trans (frX10_lay hq1.symm aq kq ⟨haq.2.1, haq.2.2.1, haq.2.2.2.1, haq.2.2.2.2.1, haq.2.2.2.2.2.1, haq.2.2.2.2.2.2⟩) (Eq.trans (wi_nc _ _ haq.1) rfl))
theorem fjX10_count {w : Int} {S : Mi × Mj} {r0 : Int} {I0 : Mi} {J0 : Mj} (h : fX10_count w S = (r0, I0, J0)) (aq kq : Nat) (haq : True) : J0 aq kq = S.2 aq kq := by
  obtain ⟨I, J⟩ := S
  unfold fX10_count at h
  try simp only at h
  obtain ⟨⟨r1, I2, J3⟩, hq1⟩ : ∃ q, q = fX10_lay ((wi I 57 0 0), J) := ⟨_, rfl⟩
  rw [← hq1] at h; try simp only at h
  by_cases hq2 : w = 11
  · simp only [if_pos hq2] at h
    simp only [Prod.mk.injEq] at h
    obtain ⟨-, hI, hJ⟩ := h
    exact (congrFun (congrFun hJ aq) kq).symm.trans (Eq.trans (fjX10_lay hq1.symm aq kq trivial) rfl)
  · simp only [if_neg hq2] at h
    by_cases hq3 : 0 ≤ w ∧ w ≤ 10
    · simp only [if_pos hq3] at h
      by_cases hq4 : 7 ≤ w
      · simp only [if_pos hq4] at h
        by_cases hq5 : w = 7
        · simp only [if_pos hq5] at h
          simp only [Prod.mk.injEq] at h
          obtain ⟨-, hI, hJ⟩ := h
          exact (congrFun (congrFun hJ aq) kq).symm.trans (Eq.trans (fjX10_lay hq1.symm aq kq trivial) rfl)
        · simp only [if_neg hq5] at h
          by_cases hq6 : w = 8
          · simp only [if_pos hq6] at h
            simp only [Prod.mk.injEq] at h
            obtain ⟨-, hI, hJ⟩ := h
            exact (congrFun (congrFun hJ aq) kq).symm.trans (Eq.trans (fjX10_lay hq1.symm aq kq trivial) rfl)
          · simp only [if_neg hq6] at h
            by_cases hq7 : w = 9
            · simp only [if_pos hq7] at h
              simp only [Prod.mk.injEq] at h
              obtain ⟨-, hI, hJ⟩ := h
              exact (congrFun (congrFun hJ aq) kq).symm.trans (Eq.trans (fjX10_lay hq1.symm aq kq trivial) rfl)
            · simp only [if_neg hq7] at h
              simp only [Prod.mk.injEq] at h
              obtain ⟨-, hI, hJ⟩ := h
              exact (congrFun (congrFun hJ aq) kq).symm.trans (Eq.trans (fjX10_lay hq1.symm aq kq trivial) rfl)
      · simp only [if_neg hq4] at h
        simp only [Prod.mk.injEq] at h
        obtain ⟨-, hI, hJ⟩ := h
        exact (congrFun (congrFun hJ aq) kq).symm.trans (Eq.trans (fjX10_lay hq1.symm aq kq trivial) rfl)
    · simp only [if_neg hq3] at h
      simp only [Prod.mk.injEq] at h
      obtain ⟨-, hI, hJ⟩ := h
      exact (congrFun (congrFun hJ aq) kq).symm.trans (Eq.trans (fjX10_lay hq1.symm aq kq trivial) rfl)
set_option maxHeartbeats 4000000 in
set_option maxRecDepth 100000 in
theorem qX10_count {G : Gx} {σ : State} (hC : Cz G σ) {sh : Sh} {I : Mi} {J : Mj} (w : Int) (hS : St sh) (hn : NX (I 59)) (rw : -2147483648 ≤ w ∧ w < 2147483648) : Ce G σ 3 yX10_count cX10_count 2 (some .int) [.ref (G.2.2 + 57), .int (iv (w))] (sh, I, J) 0 0 (some (.int (iv ((fX10_count w (I, J)).1)))) (sh, (fX10_count w (I, J)).2.1, (fX10_count w (I, J)).2.2) := by
  refine Ct.of hC (by decide +kernel) (Nat.le_of_ble_eq_true rfl) ?_
  intro p l e R s m args below meth c C
  show Jz G σ p l e R s m args below meth c 2 0 0 (Qx (some (.int (iv ((fX10_count w (I, J)).1)))) (sh, (fX10_count w (I, J)).2.1, (fX10_count w (I, J)).2.2)) (sh, I, J) 0 0 0 [(0, .ref (G.2.2 + 57)), (1, .int (iv (w)))] []
  refine z_aload_n C dX10_count_0 0 rfl ?_
  refine z_iconst C dX10_count_1 ?_
  refine z_putI C dX10_count_2 fX10_83 rfl rfl (kd_57 hS) rfl rfl ?_
  refine z_aload_n C dX10_count_5 0 rfl ?_
  refine z_cVvF (st := []) (F := fX10_lay ((wi I 57 0 0), J)) C dX10_count_6 mX10_167 (kd_57 hS) (qX10_lay hC  hS) rfl rfl (Nat.le_of_ble_eq_true rfl) (by decide) (fun r1 I2 J3 hT4 => ?_)
  have hn5 : NX (I2 59) := nxX10_lay hT4 hn
  refine z_iload_n C dX10_count_9 1 rfl ?_
  refine z_bipush C dX10_count_10 (by decide) ?_
  refine z_icmp_ne 20 C dX10_count_12 (by decide) (by omega) (by decide) (fun h6 => ?_) (fun h6 => ?_)
  ·
    refine z_iload_n C dX10_count_20 1 rfl ?_
    refine z_iconst C dX10_count_21 ?_
    refine z_bipush C dX10_count_22 (by decide) ?_
    refine z_cSi (st := []) C dX10_count_24 mX10_154 (qX10_isIn hC w 0 10 rw (by omega) (by omega)) rfl rfl (Nat.le_of_ble_eq_true rfl) (by decide) ?_
    refine z_if_ne_b 32 C dX10_count_27 (by decide) (fun h7 => ?_) (fun h7 => ?_)
    ·
      refine z_iload_n C dX10_count_32 1 rfl ?_
      refine z_bipush C dX10_count_33 (by decide) ?_
      refine z_icmp_ge 47 C dX10_count_35 (by decide) (by omega) (by decide) (fun h8 => ?_) (fun h8 => ?_)
      ·
        refine z_iload_n C dX10_count_47 1 rfl ?_
        refine z_bipush C dX10_count_48 (by decide) ?_
        refine z_icmp_ne 60 C dX10_count_50 (by decide) (by omega) (by decide) (fun h9 => ?_) (fun h9 => ?_)
        ·
          refine z_iload_n C dX10_count_60 1 rfl ?_
          refine z_bipush C dX10_count_61 (by decide) ?_
          refine z_icmp_ne 76 C dX10_count_63 (by decide) (by omega) (by decide) (fun h10 => ?_) (fun h10 => ?_)
          ·
            refine z_iload_n C dX10_count_76 1 rfl ?_
            refine z_bipush C dX10_count_77 (by decide) ?_
            refine z_icmp_ne 92 C dX10_count_79 (by decide) (by omega) (by decide) (fun h11 => ?_) (fun h11 => ?_)
            ·
              refine z_aload_n C dX10_count_92 0 rfl ?_
              refine z_getR C dX10_count_93 fX10_13 rfl (kd_57 hS) (r_57_14 hS) ?_
              refine z_bipush C dX10_count_96 (by decide) ?_
              refine z_iald (q := 111) C dX10_count_98 (ka_59 hS) rfl (by decide) ?_
              have hf12 : fX10_count w (I, J) = (gi I2 59 111, I2, J3) := (by simp only [fX10_count, hT4, if_neg h6, if_pos h7, if_pos h8, if_neg h9, if_neg h10, if_neg h11])
              exact z_ireturnx C dX10_count_99 (by rw [hf12]) (by rw [hf12])
            ·
              refine z_aload_n C dX10_count_82 0 rfl ?_
              refine z_getR C dX10_count_83 fX10_13 rfl (kd_57 hS) (r_57_14 hS) ?_
              refine z_bipush C dX10_count_86 (by decide) ?_
              refine z_iald (q := 110) C dX10_count_88 (ka_59 hS) rfl (by decide) ?_
              refine z_goto 99 C dX10_count_89 (by decide) ?_
              have hf13 : fX10_count w (I, J) = (gi I2 59 110, I2, J3) := (by simp only [fX10_count, hT4, if_neg h6, if_pos h7, if_pos h8, if_neg h9, if_neg h10, if_pos h11])
              exact z_ireturnx C dX10_count_99 (by rw [hf13]) (by rw [hf13])
          ·
            refine z_aload_n C dX10_count_66 0 rfl ?_
            refine z_getR C dX10_count_67 fX10_13 rfl (kd_57 hS) (r_57_14 hS) ?_
            refine z_bipush C dX10_count_70 (by decide) ?_
            refine z_iald (q := 109) C dX10_count_72 (ka_59 hS) rfl (by decide) ?_
            refine z_eqi (gi I 59 109) (Eq.trans (gi_fk (frX10_lay hT4 59 109 (by decide))) (gi_wi_na _ _ _ _ (by decide))) ?_
            refine z_goto 99 C dX10_count_73 (by decide) ?_
            have hf14 : fX10_count w (I, J) = (gi I 59 109, I2, J3) := (by simp only [fX10_count, hT4, if_neg h6, if_pos h7, if_pos h8, if_neg h9, if_pos h10])
            exact z_ireturnx C dX10_count_99 (by rw [hf14]) (by rw [hf14])
        ·
          refine z_aload_n C dX10_count_53 0 rfl ?_
          refine z_cVi (st := []) C dX10_count_54 mX10_188 (kd_57 hS) (qX10_coins hC  hS) rfl rfl (Nat.le_of_ble_eq_true rfl) (by decide) ?_
          refine z_eqi (gi I 59 108) (by rw [show gi I2 59 108 = gi I 59 108 from (Eq.trans (gi_fk (frX10_lay hT4 59 108 (by decide))) (gi_wi_na _ _ _ _ (by decide)))]) ?_
          refine z_goto 99 C dX10_count_57 (by decide) ?_
          have hf15 : fX10_count w (I, J) = (gi I 59 108, I2, J3) := (by simp only [fX10_count, hT4, if_neg h6, if_pos h7, if_pos h8, if_pos h9])
          exact z_ireturnx C dX10_count_99 (by rw [hf15]) (by rw [hf15])
      ·
        refine z_aload_n C dX10_count_38 0 rfl ?_
        refine z_getR C dX10_count_39 fX10_13 rfl (kd_57 hS) (r_57_14 hS) ?_
        refine z_iload_n C dX10_count_42 1 rfl ?_
        refine z_iald (q := (w).toNat) C dX10_count_43 (ka_59 hS) (by omega) (by omega) ?_
        refine z_goto 99 C dX10_count_44 (by decide) ?_
        have hf16 : fX10_count w (I, J) = (gi I2 59 ((w).toNat), I2, J3) := (by simp only [fX10_count, hT4, if_neg h6, if_pos h7, if_neg h8])
        exact z_ireturnx C dX10_count_99 (by rw [hf16]) (by rw [hf16])
    ·
      refine z_iconst C dX10_count_30 ?_
      have hf17 : fX10_count w (I, J) = (-1, I2, J3) := (by simp only [fX10_count, hT4, if_neg h6, if_neg h7])
      exact z_ireturnx C dX10_count_31 (by rw [hf17]) (by rw [hf17])
  ·
    refine z_aload_n C dX10_count_15 0 rfl ?_
    refine z_getI C dX10_count_16 fX10_86 rfl (kd_57 hS) ?_
    refine z_eqi (gi I 57 2) (Eq.trans (gi_fk (frX10_lay hT4 57 2 (by decide))) (gi_wi_nk _ _ _ (by decide))) ?_
    have hf18 : fX10_count w (I, J) = (gi I 57 2, I2, J3) := (by simp only [fX10_count, hT4, if_pos h6])
    exact z_ireturnx C dX10_count_19 (by rw [hf18]) (by rw [hf18])

noncomputable def fX10_paid (w : Int) (S : Mi × Mj) : Int × Mi × Mj :=
  match S with
  | (I, J) =>
    if (gi I 57 32) = (-1) then
      (-1, (wi I 57 0 0), J)
    else
      if 0 ≤ w ∧ w ≤ 39 then
        (gi I 71 ((w).toNat), (wi I 57 0 0), J)
      else
        (-1, (wi I 57 0 0), J)
theorem frX10_paid {w : Int} {S : Mi × Mj} {r0 : Int} {I0 : Mi} {J0 : Mj} (h : fX10_paid w S = (r0, I0, J0)) (aq kq : Nat) (haq : ¬ (aq = 57 ∧ kq = 0)) : I0 aq kq = S.1 aq kq := by
  obtain ⟨I, J⟩ := S
  unfold fX10_paid at h
  try simp only at h
  by_cases hq1 : (gi I 57 32) = (-1)
  · simp only [if_pos hq1] at h
    simp only [Prod.mk.injEq] at h
    obtain ⟨-, hI, hJ⟩ := h
    exact (congrFun (congrFun hI aq) kq).symm.trans (Eq.trans (wi_nc _ _ haq) rfl)
  · simp only [if_neg hq1] at h
    by_cases hq2 : 0 ≤ w ∧ w ≤ 39
    · simp only [if_pos hq2] at h
      simp only [Prod.mk.injEq] at h
      obtain ⟨-, hI, hJ⟩ := h
      exact (congrFun (congrFun hI aq) kq).symm.trans (Eq.trans (wi_nc _ _ haq) rfl)
    · simp only [if_neg hq2] at h
      simp only [Prod.mk.injEq] at h
      obtain ⟨-, hI, hJ⟩ := h
      exact (congrFun (congrFun hI aq) kq).symm.trans (Eq.trans (wi_nc _ _ haq) rfl)
theorem fjX10_paid {w : Int} {S : Mi × Mj} {r0 : Int} {I0 : Mi} {J0 : Mj} (h : fX10_paid w S = (r0, I0, J0)) (aq kq : Nat) (haq : True) : J0 aq kq = S.2 aq kq := by
  obtain ⟨I, J⟩ := S
  unfold fX10_paid at h
  try simp only at h
  by_cases hq1 : (gi I 57 32) = (-1)
  · simp only [if_pos hq1] at h
    simp only [Prod.mk.injEq] at h
    obtain ⟨-, hI, hJ⟩ := h
    exact (congrFun (congrFun hJ aq) kq).symm.trans rfl
  · simp only [if_neg hq1] at h
    by_cases hq2 : 0 ≤ w ∧ w ≤ 39
    · simp only [if_pos hq2] at h
      simp only [Prod.mk.injEq] at h
      obtain ⟨-, hI, hJ⟩ := h
      exact (congrFun (congrFun hJ aq) kq).symm.trans rfl
    · simp only [if_neg hq2] at h
      simp only [Prod.mk.injEq] at h
      obtain ⟨-, hI, hJ⟩ := h
      exact (congrFun (congrFun hJ aq) kq).symm.trans rfl
set_option maxHeartbeats 4000000 in
set_option maxRecDepth 100000 in
theorem qX10_paid {G : Gx} {σ : State} (hC : Cz G σ) {sh : Sh} {I : Mi} {J : Mj} (w : Int) (hS : St sh) (rw : -2147483648 ≤ w ∧ w < 2147483648) : Ce G σ 2 yX10_paid cX10_paid 2 (some .int) [.ref (G.2.2 + 57), .int (iv (w))] (sh, I, J) 0 0 (some (.int (iv ((fX10_paid w (I, J)).1)))) (sh, (fX10_paid w (I, J)).2.1, (fX10_paid w (I, J)).2.2) := by
  refine Ct.of hC (by decide +kernel) (Nat.le_of_ble_eq_true rfl) ?_
  intro p l e R s m args below meth c C
  show Jz G σ p l e R s m args below meth c 2 0 0 (Qx (some (.int (iv ((fX10_paid w (I, J)).1)))) (sh, (fX10_paid w (I, J)).2.1, (fX10_paid w (I, J)).2.2)) (sh, I, J) 0 0 0 [(0, .ref (G.2.2 + 57)), (1, .int (iv (w)))] []
  refine z_aload_n C dX10_paid_0 0 rfl ?_
  refine z_iconst C dX10_paid_1 ?_
  refine z_putI C dX10_paid_2 fX10_83 rfl rfl (kd_57 hS) rfl rfl ?_
  refine z_aload_n C dX10_paid_5 0 rfl ?_
  refine z_getI C dX10_paid_6 fX10_58 rfl (kd_57 hS) ?_
  refine z_eqi (gi I 57 32) (gi_wi_nk _ _ _ (by decide)) ?_
  refine z_iconst C dX10_paid_9 ?_
  refine z_icmp_eq 23 C dX10_paid_10 (by decide) (gi_rng _ _ _) (by decide) (fun h1 => ?_) (fun h1 => ?_)
  ·
    refine z_iconst C dX10_paid_23 ?_
    refine z_goto 33 C dX10_paid_24 (by decide) ?_
    have hf2 : fX10_paid w (I, J) = (-1, (wi I 57 0 0), J) := (by simp only [fX10_paid, if_pos h1])
    exact z_ireturnx C dX10_paid_33 (by rw [hf2]) (by rw [hf2])
  ·
    refine z_iload_n C dX10_paid_13 1 rfl ?_
    refine z_iconst C dX10_paid_14 ?_
    refine z_bipush C dX10_paid_15 (by decide) ?_
    refine z_cSi (st := []) C dX10_paid_17 mX10_154 (qX10_isIn hC w 0 39 rw (by omega) (by omega)) rfl rfl (Nat.le_of_ble_eq_true rfl) (by decide) ?_
    refine z_if_ne_b 27 C dX10_paid_20 (by decide) (fun h3 => ?_) (fun h3 => ?_)
    ·
      refine z_aload_n C dX10_paid_27 0 rfl ?_
      refine z_getR C dX10_paid_28 fX10_52 rfl (kd_57 hS) (r_57_29 hS) ?_
      refine z_iload_n C dX10_paid_31 1 rfl ?_
      refine z_iald (q := (w).toNat) C dX10_paid_32 (ka_71 hS) (by omega) (by omega) ?_
      refine z_eqi (gi I 71 ((w).toNat)) (gi_wi_na _ _ _ _ (by decide)) ?_
      have hf4 : fX10_paid w (I, J) = (gi I 71 ((w).toNat), (wi I 57 0 0), J) := (by simp only [fX10_paid, if_neg h1, if_pos h3])
      exact z_ireturnx C dX10_paid_33 (by rw [hf4]) (by rw [hf4])
    ·
      refine z_iconst C dX10_paid_23 ?_
      refine z_goto 33 C dX10_paid_24 (by decide) ?_
      have hf5 : fX10_paid w (I, J) = (-1, (wi I 57 0 0), J) := (by simp only [fX10_paid, if_neg h1, if_neg h3])
      exact z_ireturnx C dX10_paid_33 (by rw [hf5]) (by rw [hf5])

noncomputable def fX10_sold (w : Int) (t : Int) (S : Mi × Mj) : Int × Mi × Mj :=
  match S with
  | (I, J) =>
    if w < 0 then
      (0, (wi I 57 0 1), J)
    else
      if (gi I 59 113) ≤ w then
        (0, (wi I 57 0 1), J)
      else
        if 0 ≤ t ∧ t ≤ 6 then
          (gi I 59 (((4400 + (7 * w)) + t).toNat), (wi I 57 0 0), J)
        else
          (0, (wi I 57 0 1), J)
theorem frX10_sold {w : Int} {t : Int} {S : Mi × Mj} {r0 : Int} {I0 : Mi} {J0 : Mj} (h : fX10_sold w t S = (r0, I0, J0)) (aq kq : Nat) (haq : ¬ (aq = 57 ∧ kq = 0)) : I0 aq kq = S.1 aq kq := by
  obtain ⟨I, J⟩ := S
  unfold fX10_sold at h
  try simp only at h
  by_cases hq1 : w < 0
  · simp only [if_pos hq1] at h
    simp only [Prod.mk.injEq] at h
    obtain ⟨-, hI, hJ⟩ := h
    exact (congrFun (congrFun hI aq) kq).symm.trans (Eq.trans (wi_nc _ _ haq) rfl)
  · simp only [if_neg hq1] at h
    by_cases hq2 : (gi I 59 113) ≤ w
    · simp only [if_pos hq2] at h
      simp only [Prod.mk.injEq] at h
      obtain ⟨-, hI, hJ⟩ := h
      exact (congrFun (congrFun hI aq) kq).symm.trans (Eq.trans (wi_nc _ _ haq) rfl)
    · simp only [if_neg hq2] at h
      by_cases hq3 : 0 ≤ t ∧ t ≤ 6
      · simp only [if_pos hq3] at h
        simp only [Prod.mk.injEq] at h
        obtain ⟨-, hI, hJ⟩ := h
        exact (congrFun (congrFun hI aq) kq).symm.trans (Eq.trans (wi_nc _ _ haq) rfl)
      · simp only [if_neg hq3] at h
        simp only [Prod.mk.injEq] at h
        obtain ⟨-, hI, hJ⟩ := h
        exact (congrFun (congrFun hI aq) kq).symm.trans (Eq.trans (wi_nc _ _ haq) rfl)
theorem fjX10_sold {w : Int} {t : Int} {S : Mi × Mj} {r0 : Int} {I0 : Mi} {J0 : Mj} (h : fX10_sold w t S = (r0, I0, J0)) (aq kq : Nat) (haq : True) : J0 aq kq = S.2 aq kq := by
  obtain ⟨I, J⟩ := S
  unfold fX10_sold at h
  try simp only at h
  by_cases hq1 : w < 0
  · simp only [if_pos hq1] at h
    simp only [Prod.mk.injEq] at h
    obtain ⟨-, hI, hJ⟩ := h
    exact (congrFun (congrFun hJ aq) kq).symm.trans rfl
  · simp only [if_neg hq1] at h
    by_cases hq2 : (gi I 59 113) ≤ w
    · simp only [if_pos hq2] at h
      simp only [Prod.mk.injEq] at h
      obtain ⟨-, hI, hJ⟩ := h
      exact (congrFun (congrFun hJ aq) kq).symm.trans rfl
    · simp only [if_neg hq2] at h
      by_cases hq3 : 0 ≤ t ∧ t ≤ 6
      · simp only [if_pos hq3] at h
        simp only [Prod.mk.injEq] at h
        obtain ⟨-, hI, hJ⟩ := h
        exact (congrFun (congrFun hJ aq) kq).symm.trans rfl
      · simp only [if_neg hq3] at h
        simp only [Prod.mk.injEq] at h
        obtain ⟨-, hI, hJ⟩ := h
        exact (congrFun (congrFun hJ aq) kq).symm.trans rfl
set_option maxHeartbeats 4000000 in
set_option maxRecDepth 100000 in
theorem qX10_sold {G : Gx} {σ : State} (hC : Cz G σ) {sh : Sh} {I : Mi} {J : Mj} (w t : Int) (hS : St sh) (hn : NX (I 59)) (rw : -2147483648 ≤ w ∧ w < 2147483648) (rt : -2147483648 ≤ t ∧ t < 2147483648) : Ce G σ 2 yX10_sold cX10_sold 3 (some .int) [.ref (G.2.2 + 57), .int (iv (w)), .int (iv (t))] (sh, I, J) 0 0 (some (.int (iv ((fX10_sold w t (I, J)).1)))) (sh, (fX10_sold w t (I, J)).2.1, (fX10_sold w t (I, J)).2.2) := by
  refine Ct.of hC (by decide +kernel) (Nat.le_of_ble_eq_true rfl) ?_
  intro p l e R s m args below meth c C
  show Jz G σ p l e R s m args below meth c 3 0 0 (Qx (some (.int (iv ((fX10_sold w t (I, J)).1)))) (sh, (fX10_sold w t (I, J)).2.1, (fX10_sold w t (I, J)).2.2)) (sh, I, J) 0 0 0 [(0, .ref (G.2.2 + 57)), (1, .int (iv (w))), (2, .int (iv (t)))] []
  have hn0 := nx_c hn
  have hn1 := nx_p hn
  have hn2 := nx_m hn
  have hn3 := nx_s hn
  have hn4 := nx_sl hn
  refine z_iload_n C dX10_sold_0 1 rfl ?_
  refine z_if_lt 25 C dX10_sold_1 (by decide) (by omega) (fun h1 => ?_) (fun h1 => ?_)
  ·
    refine z_aload_n C dX10_sold_25 0 rfl ?_
    refine z_cVi (st := []) C dX10_sold_26 mX10_246 (kd_57 hS) (qX10_refuse hC  hS) rfl rfl (Nat.le_of_ble_eq_true rfl) (by decide) ?_
    have hf2 : fX10_sold w t (I, J) = (0, (wi I 57 0 1), J) := (by simp only [fX10_sold, if_pos h1])
    exact z_ireturnx C dX10_sold_29 (by rw [hf2]) (by rw [hf2])
  ·
    refine z_iload_n C dX10_sold_4 1 rfl ?_
    refine z_aload_n C dX10_sold_5 0 rfl ?_
    refine z_getR C dX10_sold_6 fX10_13 rfl (kd_57 hS) (r_57_14 hS) ?_
    refine z_bipush C dX10_sold_9 (by decide) ?_
    refine z_iald (q := 113) C dX10_sold_11 (ka_59 hS) rfl (by decide) ?_
    refine z_icmp_ge 25 C dX10_sold_12 (by decide) (by omega) (gi_rng _ _ _) (fun h3 => ?_) (fun h3 => ?_)
    ·
      refine z_aload_n C dX10_sold_25 0 rfl ?_
      refine z_cVi (st := []) C dX10_sold_26 mX10_246 (kd_57 hS) (qX10_refuse hC  hS) rfl rfl (Nat.le_of_ble_eq_true rfl) (by decide) ?_
      have hf4 : fX10_sold w t (I, J) = (0, (wi I 57 0 1), J) := (by simp only [fX10_sold, if_neg h1, if_pos h3])
      exact z_ireturnx C dX10_sold_29 (by rw [hf4]) (by rw [hf4])
    ·
      refine z_iload_n C dX10_sold_15 2 rfl ?_
      refine z_iconst C dX10_sold_16 ?_
      refine z_bipush C dX10_sold_17 (by decide) ?_
      refine z_cSi (st := []) C dX10_sold_19 mX10_154 (qX10_isIn hC t 0 6 rt (by omega) (by omega)) rfl rfl (Nat.le_of_ble_eq_true rfl) (by decide) ?_
      refine z_if_ne_b 30 C dX10_sold_22 (by decide) (fun h5 => ?_) (fun h5 => ?_)
      ·
        refine z_aload_n C dX10_sold_30 0 rfl ?_
        refine z_iconst C dX10_sold_31 ?_
        refine z_putI C dX10_sold_32 fX10_83 rfl rfl (kd_57 hS) rfl rfl ?_
        refine z_aload_n C dX10_sold_35 0 rfl ?_
        refine z_getR C dX10_sold_36 fX10_13 rfl (kd_57 hS) (r_57_14 hS) ?_
        refine z_sipush C dX10_sold_39 (by decide) ?_
        refine z_bipush C dX10_sold_42 (by decide) ?_
        refine z_iload_n C dX10_sold_44 1 rfl ?_
        refine z_imul C dX10_sold_45 ?_
        refine z_iadd C dX10_sold_46 ?_
        refine z_iload_n C dX10_sold_47 2 rfl ?_
        refine z_iadd C dX10_sold_48 ?_
        refine z_iald (q := ((4400 + (7 * w)) + t).toNat) C dX10_sold_49 (ka_59 hS) (by omega) (by omega) ?_
        refine z_eqi (gi I 59 (((4400 + (7 * w)) + t).toNat)) (gi_wi_na _ _ _ _ (by decide)) ?_
        have hf6 : fX10_sold w t (I, J) = (gi I 59 (((4400 + (7 * w)) + t).toNat), (wi I 57 0 0), J) := (by simp only [fX10_sold, if_neg h1, if_neg h3, if_pos h5])
        exact z_ireturnx C dX10_sold_50 (by rw [hf6]) (by rw [hf6])
      ·
        refine z_aload_n C dX10_sold_25 0 rfl ?_
        refine z_cVi (st := []) C dX10_sold_26 mX10_246 (kd_57 hS) (qX10_refuse hC  hS) rfl rfl (Nat.le_of_ble_eq_true rfl) (by decide) ?_
        have hf7 : fX10_sold w t (I, J) = (0, (wi I 57 0 1), J) := (by simp only [fX10_sold, if_neg h1, if_neg h3, if_neg h5])
        exact z_ireturnx C dX10_sold_29 (by rw [hf7]) (by rw [hf7])

noncomputable def fX10_could (w : Int) (t : Int) (S : Mi × Mj) : Int × Mi × Mj :=
  match S with
  | (I, J) =>
    if w < 0 then
      (-1, (wi I 57 0 0), J)
    else
      if (gi I 57 40) ≤ w then
        (-1, (wi I 57 0 0), J)
      else
        if 0 ≤ t ∧ t ≤ 1 then
          if t = 0 then
            (gi I 75 ((w).toNat), (wi I 57 0 0), J)
          else
            (gi I 76 ((w).toNat), (wi I 57 0 0), J)
        else
          (-1, (wi I 57 0 0), J)
theorem frX10_could {w : Int} {t : Int} {S : Mi × Mj} {r0 : Int} {I0 : Mi} {J0 : Mj} (h : fX10_could w t S = (r0, I0, J0)) (aq kq : Nat) (haq : ¬ (aq = 57 ∧ kq = 0)) : I0 aq kq = S.1 aq kq := by
  obtain ⟨I, J⟩ := S
  unfold fX10_could at h
  try simp only at h
  by_cases hq1 : w < 0
  · simp only [if_pos hq1] at h
    simp only [Prod.mk.injEq] at h
    obtain ⟨-, hI, hJ⟩ := h
    exact (congrFun (congrFun hI aq) kq).symm.trans (Eq.trans (wi_nc _ _ haq) rfl)
  · simp only [if_neg hq1] at h
    by_cases hq2 : (gi I 57 40) ≤ w
    · simp only [if_pos hq2] at h
      simp only [Prod.mk.injEq] at h
      obtain ⟨-, hI, hJ⟩ := h
      exact (congrFun (congrFun hI aq) kq).symm.trans (Eq.trans (wi_nc _ _ haq) rfl)
    · simp only [if_neg hq2] at h
      by_cases hq3 : 0 ≤ t ∧ t ≤ 1
      · simp only [if_pos hq3] at h
        by_cases hq4 : t = 0
        · simp only [if_pos hq4] at h
          simp only [Prod.mk.injEq] at h
          obtain ⟨-, hI, hJ⟩ := h
          exact (congrFun (congrFun hI aq) kq).symm.trans (Eq.trans (wi_nc _ _ haq) rfl)
        · simp only [if_neg hq4] at h
          simp only [Prod.mk.injEq] at h
          obtain ⟨-, hI, hJ⟩ := h
          exact (congrFun (congrFun hI aq) kq).symm.trans (Eq.trans (wi_nc _ _ haq) rfl)
      · simp only [if_neg hq3] at h
        simp only [Prod.mk.injEq] at h
        obtain ⟨-, hI, hJ⟩ := h
        exact (congrFun (congrFun hI aq) kq).symm.trans (Eq.trans (wi_nc _ _ haq) rfl)
theorem fjX10_could {w : Int} {t : Int} {S : Mi × Mj} {r0 : Int} {I0 : Mi} {J0 : Mj} (h : fX10_could w t S = (r0, I0, J0)) (aq kq : Nat) (haq : True) : J0 aq kq = S.2 aq kq := by
  obtain ⟨I, J⟩ := S
  unfold fX10_could at h
  try simp only at h
  by_cases hq1 : w < 0
  · simp only [if_pos hq1] at h
    simp only [Prod.mk.injEq] at h
    obtain ⟨-, hI, hJ⟩ := h
    exact (congrFun (congrFun hJ aq) kq).symm.trans rfl
  · simp only [if_neg hq1] at h
    by_cases hq2 : (gi I 57 40) ≤ w
    · simp only [if_pos hq2] at h
      simp only [Prod.mk.injEq] at h
      obtain ⟨-, hI, hJ⟩ := h
      exact (congrFun (congrFun hJ aq) kq).symm.trans rfl
    · simp only [if_neg hq2] at h
      by_cases hq3 : 0 ≤ t ∧ t ≤ 1
      · simp only [if_pos hq3] at h
        by_cases hq4 : t = 0
        · simp only [if_pos hq4] at h
          simp only [Prod.mk.injEq] at h
          obtain ⟨-, hI, hJ⟩ := h
          exact (congrFun (congrFun hJ aq) kq).symm.trans rfl
        · simp only [if_neg hq4] at h
          simp only [Prod.mk.injEq] at h
          obtain ⟨-, hI, hJ⟩ := h
          exact (congrFun (congrFun hJ aq) kq).symm.trans rfl
      · simp only [if_neg hq3] at h
        simp only [Prod.mk.injEq] at h
        obtain ⟨-, hI, hJ⟩ := h
        exact (congrFun (congrFun hJ aq) kq).symm.trans rfl
set_option maxHeartbeats 4000000 in
set_option maxRecDepth 100000 in
theorem qX10_could {G : Gx} {σ : State} (hC : Cz G σ) {sh : Sh} {I : Mi} {J : Mj} (w t : Int) (hS : St sh) (hr : gi I 57 40 ≤ 9) (rw : -2147483648 ≤ w ∧ w < 2147483648) (rt : -2147483648 ≤ t ∧ t < 2147483648) : Ce G σ 2 yX10_could cX10_could 3 (some .int) [.ref (G.2.2 + 57), .int (iv (w)), .int (iv (t))] (sh, I, J) 0 0 (some (.int (iv ((fX10_could w t (I, J)).1)))) (sh, (fX10_could w t (I, J)).2.1, (fX10_could w t (I, J)).2.2) := by
  refine Ct.of hC (by decide +kernel) (Nat.le_of_ble_eq_true rfl) ?_
  intro p l e R s m args below meth c C
  show Jz G σ p l e R s m args below meth c 3 0 0 (Qx (some (.int (iv ((fX10_could w t (I, J)).1)))) (sh, (fX10_could w t (I, J)).2.1, (fX10_could w t (I, J)).2.2)) (sh, I, J) 0 0 0 [(0, .ref (G.2.2 + 57)), (1, .int (iv (w))), (2, .int (iv (t)))] []
  refine z_aload_n C dX10_could_0 0 rfl ?_
  refine z_iconst C dX10_could_1 ?_
  refine z_putI C dX10_could_2 fX10_83 rfl rfl (kd_57 hS) rfl rfl ?_
  refine z_iload_n C dX10_could_5 1 rfl ?_
  refine z_if_lt 48 C dX10_could_6 (by decide) (by omega) (fun h1 => ?_) (fun h1 => ?_)
  ·
    refine z_iconst C dX10_could_48 ?_
    have hf2 : fX10_could w t (I, J) = (-1, (wi I 57 0 0), J) := (by simp only [fX10_could, if_pos h1])
    exact z_ireturnx C dX10_could_49 (by rw [hf2]) (by rw [hf2])
  ·
    refine z_iload_n C dX10_could_9 1 rfl ?_
    refine z_aload_n C dX10_could_10 0 rfl ?_
    refine z_getI C dX10_could_11 fX10_352 rfl (kd_57 hS) ?_
    refine z_eqi (gi I 57 40) (gi_wi_nk _ _ _ (by decide)) ?_
    refine z_icmp_ge 48 C dX10_could_14 (by decide) (by omega) (gi_rng _ _ _) (fun h3 => ?_) (fun h3 => ?_)
    ·
      refine z_iconst C dX10_could_48 ?_
      have hf4 : fX10_could w t (I, J) = (-1, (wi I 57 0 0), J) := (by simp only [fX10_could, if_neg h1, if_pos h3])
      exact z_ireturnx C dX10_could_49 (by rw [hf4]) (by rw [hf4])
    ·
      refine z_iload_n C dX10_could_17 2 rfl ?_
      refine z_iconst C dX10_could_18 ?_
      refine z_iconst C dX10_could_19 ?_
      refine z_cSi (st := []) C dX10_could_20 mX10_154 (qX10_isIn hC t 0 1 rt (by omega) (by omega)) rfl rfl (Nat.le_of_ble_eq_true rfl) (by decide) ?_
      refine z_if_eq_b 48 C dX10_could_23 (by decide) (fun h5 => ?_) (fun h5 => ?_)
      ·
        refine z_iconst C dX10_could_48 ?_
        have hf6 : fX10_could w t (I, J) = (-1, (wi I 57 0 0), J) := (by simp only [fX10_could, if_neg h1, if_neg h3, if_neg h5])
        exact z_ireturnx C dX10_could_49 (by rw [hf6]) (by rw [hf6])
      ·
        refine z_iload_n C dX10_could_26 2 rfl ?_
        refine z_if_ne 39 C dX10_could_27 (by decide) (by omega) (fun h7 => ?_) (fun h7 => ?_)
        ·
          refine z_aload_n C dX10_could_39 0 rfl ?_
          refine z_getR C dX10_could_40 fX10_71 rfl (kd_57 hS) (r_57_36 hS) ?_
          refine z_iload_n C dX10_could_43 1 rfl ?_
          refine z_iald (q := (w).toNat) C dX10_could_44 (ka_76 hS) (by omega) (by omega) ?_
          refine z_eqi (gi I 76 ((w).toNat)) (gi_wi_na _ _ _ _ (by decide)) ?_
          refine z_goto 49 C dX10_could_45 (by decide) ?_
          have hf8 : fX10_could w t (I, J) = (gi I 76 ((w).toNat), (wi I 57 0 0), J) := (by simp only [fX10_could, if_neg h1, if_neg h3, if_pos h5, if_neg h7])
          exact z_ireturnx C dX10_could_49 (by rw [hf8]) (by rw [hf8])
        ·
          refine z_aload_n C dX10_could_30 0 rfl ?_
          refine z_getR C dX10_could_31 fX10_68 rfl (kd_57 hS) (r_57_35 hS) ?_
          refine z_iload_n C dX10_could_34 1 rfl ?_
          refine z_iald (q := (w).toNat) C dX10_could_35 (ka_75 hS) (by omega) (by omega) ?_
          refine z_eqi (gi I 75 ((w).toNat)) (gi_wi_na _ _ _ _ (by decide)) ?_
          refine z_goto 49 C dX10_could_36 (by decide) ?_
          have hf9 : fX10_could w t (I, J) = (gi I 75 ((w).toNat), (wi I 57 0 0), J) := (by simp only [fX10_could, if_neg h1, if_neg h3, if_pos h5, if_pos h7])
          exact z_ireturnx C dX10_could_49 (by rw [hf9]) (by rw [hf9])

noncomputable def fX10_mint (w : Int) (t : Int) (S : Mi × Mj) : Int × Mi × Mj :=
  match S with
  | (I, J) =>
    match fX10_lay (I, J) with
    | (r1, I2, J3) =>
      if 0 ≤ w ∧ w < gi I 59 1 then
        if 0 ≤ t ∧ t ≤ 3 then
          if 3 ≤ t then
            match su (fun q => if gi I2 59 (1400 + 6 * q + 2).toNat = w then 1 else 0) (gi I 59 112).toNat with
            | n0 =>
              (n0, (wi I2 57 0 0), J3)
          else
            (gi I2 59 ((32 + 3 * w + t).toNat), (wi I2 57 0 0), J3)
        else
          (0, (wi I2 57 0 1), J3)
      else
        (0, (wi I2 57 0 1), J3)
theorem frX10_mint {w : Int} {t : Int} {S : Mi × Mj} {r0 : Int} {I0 : Mi} {J0 : Mj} (h : fX10_mint w t S = (r0, I0, J0)) (aq kq : Nat) (haq : ¬ (aq = 57 ∧ kq = 0) ∧ ¬ (aq = 57 ∧ kq = 22) ∧ ¬ (aq = 59 ∧ kq = 110) ∧ ¬ (aq = 59 ∧ kq = 111) ∧ ¬ (aq = 59 ∧ kq = 4) ∧ ¬ (aq = 59 ∧ kq = 5) ∧ ¬ (aq = 59 ∧ kq = 6)) : I0 aq kq = S.1 aq kq := by
  obtain ⟨I, J⟩ := S
  unfold fX10_mint at h
  try simp only at h
  obtain ⟨⟨r1, I2, J3⟩, hq1⟩ : ∃ q, q = fX10_lay (I, J) := ⟨_, rfl⟩
  rw [← hq1] at h; try simp only at h
  by_cases hq2 : 0 ≤ w ∧ w < gi I 59 1
  · simp only [if_pos hq2] at h
    by_cases hq3 : 0 ≤ t ∧ t ≤ 3
    · simp only [if_pos hq3] at h
      by_cases hq4 : 3 ≤ t
      · simp only [if_pos hq4] at h
        obtain ⟨n0, hq5⟩ : ∃ zz, zz = su (fun q => if gi I2 59 (1400 + 6 * q + 2).toNat = w then 1 else 0) (gi I 59 112).toNat := ⟨_, rfl⟩
        try rw [← hq5] at h
        try simp only at h
        simp only [Prod.mk.injEq] at h
        obtain ⟨-, hI, hJ⟩ := h
        exact (congrFun (congrFun hI aq) kq).symm.trans (Eq.trans (wi_nc _ _ haq.1) (Eq.trans (frX10_lay hq1.symm aq kq ⟨haq.2.1, haq.2.2.1, haq.2.2.2.1, haq.2.2.2.2.1, haq.2.2.2.2.2.1, haq.2.2.2.2.2.2⟩) rfl))
      · simp only [if_neg hq4] at h
        simp only [Prod.mk.injEq] at h
        obtain ⟨-, hI, hJ⟩ := h
        exact (congrFun (congrFun hI aq) kq).symm.trans (Eq.trans (wi_nc _ _ haq.1) (Eq.trans (frX10_lay hq1.symm aq kq ⟨haq.2.1, haq.2.2.1, haq.2.2.2.1, haq.2.2.2.2.1, haq.2.2.2.2.2.1, haq.2.2.2.2.2.2⟩) rfl))
    · simp only [if_neg hq3] at h
      simp only [Prod.mk.injEq] at h
      obtain ⟨-, hI, hJ⟩ := h
      exact (congrFun (congrFun hI aq) kq).symm.trans (Eq.trans (wi_nc _ _ haq.1) (Eq.trans (frX10_lay hq1.symm aq kq ⟨haq.2.1, haq.2.2.1, haq.2.2.2.1, haq.2.2.2.2.1, haq.2.2.2.2.2.1, haq.2.2.2.2.2.2⟩) rfl))
  · simp only [if_neg hq2] at h
    simp only [Prod.mk.injEq] at h
    obtain ⟨-, hI, hJ⟩ := h
    exact (congrFun (congrFun hI aq) kq).symm.trans (Eq.trans (wi_nc _ _ haq.1) (Eq.trans (frX10_lay hq1.symm aq kq ⟨haq.2.1, haq.2.2.1, haq.2.2.2.1, haq.2.2.2.2.1, haq.2.2.2.2.2.1, haq.2.2.2.2.2.2⟩) rfl))
theorem fjX10_mint {w : Int} {t : Int} {S : Mi × Mj} {r0 : Int} {I0 : Mi} {J0 : Mj} (h : fX10_mint w t S = (r0, I0, J0)) (aq kq : Nat) (haq : True) : J0 aq kq = S.2 aq kq := by
  obtain ⟨I, J⟩ := S
  unfold fX10_mint at h
  try simp only at h
  obtain ⟨⟨r1, I2, J3⟩, hq1⟩ : ∃ q, q = fX10_lay (I, J) := ⟨_, rfl⟩
  rw [← hq1] at h; try simp only at h
  by_cases hq2 : 0 ≤ w ∧ w < gi I 59 1
  · simp only [if_pos hq2] at h
    by_cases hq3 : 0 ≤ t ∧ t ≤ 3
    · simp only [if_pos hq3] at h
      by_cases hq4 : 3 ≤ t
      · simp only [if_pos hq4] at h
        obtain ⟨n0, hq5⟩ : ∃ zz, zz = su (fun q => if gi I2 59 (1400 + 6 * q + 2).toNat = w then 1 else 0) (gi I 59 112).toNat := ⟨_, rfl⟩
        try rw [← hq5] at h
        try simp only at h
        simp only [Prod.mk.injEq] at h
        obtain ⟨-, hI, hJ⟩ := h
        exact (congrFun (congrFun hJ aq) kq).symm.trans (Eq.trans (fjX10_lay hq1.symm aq kq trivial) rfl)
      · simp only [if_neg hq4] at h
        simp only [Prod.mk.injEq] at h
        obtain ⟨-, hI, hJ⟩ := h
        exact (congrFun (congrFun hJ aq) kq).symm.trans (Eq.trans (fjX10_lay hq1.symm aq kq trivial) rfl)
    · simp only [if_neg hq3] at h
      simp only [Prod.mk.injEq] at h
      obtain ⟨-, hI, hJ⟩ := h
      exact (congrFun (congrFun hJ aq) kq).symm.trans (Eq.trans (fjX10_lay hq1.symm aq kq trivial) rfl)
  · simp only [if_neg hq2] at h
    simp only [Prod.mk.injEq] at h
    obtain ⟨-, hI, hJ⟩ := h
    exact (congrFun (congrFun hJ aq) kq).symm.trans (Eq.trans (fjX10_lay hq1.symm aq kq trivial) rfl)
set_option maxHeartbeats 4000000 in
set_option maxRecDepth 100000 in
theorem qX10_mint {G : Gx} {σ : State} (hC : Cz G σ) {sh : Sh} {I : Mi} {J : Mj} (w t : Int) (hS : St sh) (hn : NX (I 59)) (rw : -2147483648 ≤ w ∧ w < 2147483648) (rt : -2147483648 ≤ t ∧ t < 2147483648) : Ce G σ 3 yX10_mint cX10_mint 5 (some .int) [.ref (G.2.2 + 57), .int (iv (w)), .int (iv (t))] (sh, I, J) 0 0 (some (.int (iv ((fX10_mint w t (I, J)).1)))) (sh, (fX10_mint w t (I, J)).2.1, (fX10_mint w t (I, J)).2.2) := by
  refine Ct.of hC (by decide +kernel) (Nat.le_of_ble_eq_true rfl) ?_
  intro p l e R s m args below meth c C
  show Jz G σ p l e R s m args below meth c 5 0 0 (Qx (some (.int (iv ((fX10_mint w t (I, J)).1)))) (sh, (fX10_mint w t (I, J)).2.1, (fX10_mint w t (I, J)).2.2)) (sh, I, J) 0 0 0 [(0, .ref (G.2.2 + 57)), (1, .int (iv (w))), (2, .int (iv (t)))] []
  have hn0 := nx_c hn
  have hn1 := nx_p hn
  have hn2 := nx_m hn
  have hn3 := nx_s hn
  have hn4 := nx_sl hn
  refine z_aload_n C dX10_mint_0 0 rfl ?_
  refine z_cVvF (st := []) (F := fX10_lay (I, J)) C dX10_mint_1 mX10_167 (kd_57 hS) (qX10_lay hC  hS) rfl rfl (Nat.le_of_ble_eq_true rfl) (by decide) (fun r1 I2 J3 hT4 => ?_)
  have hn5 : NX (I2 59) := nxX10_lay hT4 hn
  refine z_aload_n C dX10_mint_4 0 rfl ?_
  refine z_iload_n C dX10_mint_5 1 rfl ?_
  refine z_cVi (st := []) C dX10_mint_6 mX10_259 (kd_57 hS) (qX10_isMint hC w hS rw) rfl rfl (Nat.le_of_ble_eq_true rfl) (by decide) ?_
  refine z_eqi (b2 (0 ≤ w ∧ w < gi I 59 1)) (b2_iff (by rw [show gi I2 59 1 = gi I 59 1 from (gi_fk (frX10_lay hT4 59 1 (by decide)))])) ?_
  refine z_if_eq_b 21 C dX10_mint_9 (by decide) (fun h6 => ?_) (fun h6 => ?_)
  ·
    refine z_aload_n C dX10_mint_21 0 rfl ?_
    refine z_cVi (st := []) C dX10_mint_22 mX10_246 (kd_57 hS) (qX10_refuse hC  hS) rfl rfl (Nat.le_of_ble_eq_true rfl) (by decide) ?_
    have hf7 : fX10_mint w t (I, J) = (0, (wi I2 57 0 1), J3) := (by simp only [fX10_mint, hT4, if_neg h6])
    exact z_ireturnx C dX10_mint_25 (by rw [hf7]) (by rw [hf7])
  ·
    refine z_iload_n C dX10_mint_12 2 rfl ?_
    refine z_iconst C dX10_mint_13 ?_
    refine z_iconst C dX10_mint_14 ?_
    refine z_cSi (st := []) C dX10_mint_15 mX10_154 (qX10_isIn hC t 0 3 rt (by omega) (by omega)) rfl rfl (Nat.le_of_ble_eq_true rfl) (by decide) ?_
    refine z_if_ne_b 26 C dX10_mint_18 (by decide) (fun h8 => ?_) (fun h8 => ?_)
    ·
      refine z_aload_n C dX10_mint_26 0 rfl ?_
      refine z_iconst C dX10_mint_27 ?_
      refine z_putI C dX10_mint_28 fX10_83 rfl rfl (kd_57 hS) rfl rfl ?_
      refine z_iload_n C dX10_mint_31 2 rfl ?_
      refine z_iconst C dX10_mint_32 ?_
      refine z_icmp_ge 43 C dX10_mint_33 (by decide) (by omega) (by decide) (fun h9 => ?_) (fun h9 => ?_)
      ·
        refine z_iconst C dX10_mint_43 ?_
        refine z_istore_n (lv' := [(0, .ref (G.2.2 + 57)), (1, .int (iv (w))), (2, .int (iv (t))), (3, .int (iv (0)))]) C dX10_mint_44 rfl (by decide) [1, 2, 3, 0] rfl ?_
        refine z_iconst C dX10_mint_45 ?_
        refine z_istore (lv' := [(0, .ref (G.2.2 + 57)), (1, .int (iv (w))), (2, .int (iv (t))), (3, .int (iv (0))), (4, .int (iv (0)))]) C dX10_mint_46 (by decide) [1, 2, 3, 4, 0] rfl ?_
        have hE13 : ∀ (n0 : Int), n0 = su (fun q => if gi I2 59 (1400 + 6 * q + 2).toNat = w then 1 else 0) (gi I 59 112).toNat → Jz G σ p l e R s m args below meth c 5 0 0 (Qx (some (.int (iv ((fX10_mint w t (I, J)).1)))) (sh, (fX10_mint w t (I, J)).2.1, (fX10_mint w t (I, J)).2.2)) (sh, (wi I2 57 0 0), J3) 0 0 89 [(0, .ref (G.2.2 + 57)), (1, .int (iv (w))), (2, .int (iv (t))), (3, .int (iv (n0)))] [] := by
          intro n0 hxn0
          refine z_iload_n C dX10_mint_89 3 rfl ?_
          have hf14 : fX10_mint w t (I, J) = (n0, (wi I2 57 0 0), J3) := (by simp only [fX10_mint, hT4, if_pos h6, if_pos h8, if_pos h9, ← hxn0])
          exact z_ireturnx C dX10_mint_90 (by rw [hf14]) (by rw [hf14])
        have hL11 : ∀ (N10 : Nat) (q : Int) (n0 : Int), (0 ≤ q ∧ q ≤ gi I 59 112) → n0 = su (fun q => if gi I2 59 (1400 + 6 * q + 2).toNat = w then 1 else 0) q.toNat → (gi I 59 112 - q).toNat < N10 → Jz G σ p l e R s m args below meth c 5 0 0 (Qx (some (.int (iv ((fX10_mint w t (I, J)).1)))) (sh, (fX10_mint w t (I, J)).2.1, (fX10_mint w t (I, J)).2.2)) (sh, (wi I2 57 0 0), J3) 0 0 48 [(0, .ref (G.2.2 + 57)), (1, .int (iv (w))), (2, .int (iv (t))), (3, .int (iv (n0))), (4, .int (iv (q)))] [] := by
          intro N10
          induction N10 with
          | zero => intro q n0 hq hnn0 hm; exact absurd hm (Nat.not_lt_zero _)
          | succ N10 ih12 =>
            intro q n0 hq hnn0 hm
            refine z_iload C dX10_mint_48 4 rfl ?_
            refine z_aload_n C dX10_mint_50 0 rfl ?_
            refine z_getR C dX10_mint_51 fX10_13 rfl (kd_57 hS) (r_57_14 hS) ?_
            refine z_bipush C dX10_mint_54 (by decide) ?_
            refine z_iald (q := 112) C dX10_mint_56 (ka_59 hS) rfl (by decide) ?_
            refine z_eqi (gi I 59 112) (Eq.trans (gi_wi_na _ _ _ _ (by decide)) (gi_fk (frX10_lay hT4 59 112 (by decide)))) ?_
            refine z_icmp_ge 89 C dX10_mint_57 (by decide) (by omega) (gi_rng _ _ _) (fun h15 => ?_) (fun h15 => ?_)
            ·
              have hcl : q = gi I 59 112 := by omega
              refine z_drop (lv' := [(0, .ref (G.2.2 + 57)), (1, .int (iv (w))), (2, .int (iv (t))), (3, .int (iv (n0)))]) [0, 1, 2, 3] rfl ?_
              exact hE13 n0 (by rw [hnn0, hcl])
            ·
              refine z_aload_n C dX10_mint_60 0 rfl ?_
              refine z_getR C dX10_mint_61 fX10_13 rfl (kd_57 hS) (r_57_14 hS) ?_
              refine z_sipush C dX10_mint_64 (by decide) ?_
              refine z_bipush C dX10_mint_67 (by decide) ?_
              refine z_iload C dX10_mint_69 4 rfl ?_
              refine z_imul C dX10_mint_71 ?_
              refine z_iadd C dX10_mint_72 ?_
              refine z_iconst C dX10_mint_73 ?_
              refine z_iadd C dX10_mint_74 ?_
              refine z_iald (q := ((1400 + (6 * q)) + 2).toNat) C dX10_mint_75 (ka_59 hS) (by omega) (by omega) ?_
              refine z_eqi (gi I2 59 (((1400 + (6 * q)) + 2).toNat)) (gi_wi_na _ _ _ _ (by decide)) ?_
              refine z_iload_n C dX10_mint_76 1 rfl ?_
              refine z_icmp_ne 83 C dX10_mint_77 (by decide) (gi_rng _ _ _) (by omega) (fun h16 => ?_) (fun h16 => ?_)
              ·
                refine z_iinc (lv' := [(0, .ref (G.2.2 + 57)), (1, .int (iv (w))), (2, .int (iv (t))), (3, .int (iv (n0))), (4, .int (iv (q + 1)))]) C dX10_mint_83 4 rfl (by decide) [1, 2, 3, 4, 0] rfl ?_
                refine z_goto 48 C dX10_mint_86 (by decide) ?_
                exact ih12 (q + 1) n0 (by omega) (by rw [su_step _ hq.1, ← hnn0]; (try simp only [b2, if_neg h15, if_neg h16]) <;> omega)  (by omega)
              ·
                refine z_iinc (lv' := [(0, .ref (G.2.2 + 57)), (1, .int (iv (w))), (2, .int (iv (t))), (3, .int (iv (n0 + 1))), (4, .int (iv (q)))]) C dX10_mint_80 3 rfl (by decide) [1, 2, 3, 0, 4] rfl ?_
                refine z_iinc (lv' := [(0, .ref (G.2.2 + 57)), (1, .int (iv (w))), (2, .int (iv (t))), (3, .int (iv (n0 + 1))), (4, .int (iv (q + 1)))]) C dX10_mint_83 4 rfl (by decide) [1, 2, 3, 4, 0] rfl ?_
                refine z_goto 48 C dX10_mint_86 (by decide) ?_
                exact ih12 (q + 1) (n0 + 1) (by omega) (by rw [su_step _ hq.1, ← hnn0]; (try simp only [b2, if_neg h15, if_pos h16]) <;> omega)  (by omega)
        exact hL11 _ (0) (0) (by omega) (by simp [su])  (Nat.lt_succ_self _)
      ·
        refine z_aload_n C dX10_mint_36 0 rfl ?_
        refine z_iload_n C dX10_mint_37 1 rfl ?_
        refine z_iload_n C dX10_mint_38 2 rfl ?_
        refine z_cVi (st := []) C dX10_mint_39 mX10_262 (kd_57 hS) (qX10_ofMint hC w t hS (by omega) (by omega)) rfl rfl (Nat.le_of_ble_eq_true rfl) (by decide) ?_
        refine z_eqi (gi I2 59 ((32 + 3 * w + t).toNat)) (by rw [show gi (wi I2 57 0 0) 59 (32 + 3 * w + t).toNat = gi I2 59 ((32 + 3 * w + t).toNat) from (gi_wi_na _ _ _ _ (by decide))]) ?_
        have hf17 : fX10_mint w t (I, J) = (gi I2 59 ((32 + 3 * w + t).toNat), (wi I2 57 0 0), J3) := (by simp only [fX10_mint, hT4, if_pos h6, if_pos h8, if_neg h9])
        exact z_ireturnx C dX10_mint_42 (by rw [hf17]) (by rw [hf17])
    ·
      refine z_aload_n C dX10_mint_21 0 rfl ?_
      refine z_cVi (st := []) C dX10_mint_22 mX10_246 (kd_57 hS) (qX10_refuse hC  hS) rfl rfl (Nat.le_of_ble_eq_true rfl) (by decide) ?_
      have hf18 : fX10_mint w t (I, J) = (0, (wi I2 57 0 1), J3) := (by simp only [fX10_mint, hT4, if_pos h6, if_neg h8])
      exact z_ireturnx C dX10_mint_25 (by rw [hf18]) (by rw [hf18])

noncomputable def fX10_who (w : Int) (t : Int) (S : Mi × Mj) : Int × Mi × Mj :=
  match S with
  | (I, J) =>
    match fX10_lay (I, J) with
    | (r1, I2, J3) =>
      if 0 ≤ w ∧ w < gi I 59 0 then
        if 0 ≤ t ∧ t ≤ 5 then
          if 3 ≤ t then
            match su (fun q => if t = 5 then (if gi I2 59 (120 + 32 * q + 4).toNat = w then 1 else 0) else if gi I2 59 (120 + 32 * q + 1).toNat = w then (if t = 3 then 1 else gi I2 59 (120 + 32 * q + 0).toNat) else 0) (gi I 59 108).toNat with
            | n0 =>
              (n0, (wi I2 57 0 0), J3)
          else
            (gi I2 59 ((8 + 3 * w + t).toNat), (wi I2 57 0 0), J3)
        else
          (0, (wi I2 57 0 1), J3)
      else
        (0, (wi I2 57 0 1), J3)
theorem frX10_who {w : Int} {t : Int} {S : Mi × Mj} {r0 : Int} {I0 : Mi} {J0 : Mj} (h : fX10_who w t S = (r0, I0, J0)) (aq kq : Nat) (haq : ¬ (aq = 57 ∧ kq = 0) ∧ ¬ (aq = 57 ∧ kq = 22) ∧ ¬ (aq = 59 ∧ kq = 110) ∧ ¬ (aq = 59 ∧ kq = 111) ∧ ¬ (aq = 59 ∧ kq = 4) ∧ ¬ (aq = 59 ∧ kq = 5) ∧ ¬ (aq = 59 ∧ kq = 6)) : I0 aq kq = S.1 aq kq := by
  obtain ⟨I, J⟩ := S
  unfold fX10_who at h
  try simp only at h
  obtain ⟨⟨r1, I2, J3⟩, hq1⟩ : ∃ q, q = fX10_lay (I, J) := ⟨_, rfl⟩
  rw [← hq1] at h; try simp only at h
  by_cases hq2 : 0 ≤ w ∧ w < gi I 59 0
  · simp only [if_pos hq2] at h
    by_cases hq3 : 0 ≤ t ∧ t ≤ 5
    · simp only [if_pos hq3] at h
      by_cases hq4 : 3 ≤ t
      · simp only [if_pos hq4] at h
        obtain ⟨n0, hq5⟩ : ∃ zz, zz = su (fun q => if t = 5 then (if gi I2 59 (120 + 32 * q + 4).toNat = w then 1 else 0) else if gi I2 59 (120 + 32 * q + 1).toNat = w then (if t = 3 then 1 else gi I2 59 (120 + 32 * q + 0).toNat) else 0) (gi I 59 108).toNat := ⟨_, rfl⟩
        try rw [← hq5] at h
        try simp only at h
        simp only [Prod.mk.injEq] at h
        obtain ⟨-, hI, hJ⟩ := h
        exact (congrFun (congrFun hI aq) kq).symm.trans (Eq.trans (wi_nc _ _ haq.1) (Eq.trans (frX10_lay hq1.symm aq kq ⟨haq.2.1, haq.2.2.1, haq.2.2.2.1, haq.2.2.2.2.1, haq.2.2.2.2.2.1, haq.2.2.2.2.2.2⟩) rfl))
      · simp only [if_neg hq4] at h
        simp only [Prod.mk.injEq] at h
        obtain ⟨-, hI, hJ⟩ := h
        exact (congrFun (congrFun hI aq) kq).symm.trans (Eq.trans (wi_nc _ _ haq.1) (Eq.trans (frX10_lay hq1.symm aq kq ⟨haq.2.1, haq.2.2.1, haq.2.2.2.1, haq.2.2.2.2.1, haq.2.2.2.2.2.1, haq.2.2.2.2.2.2⟩) rfl))
    · simp only [if_neg hq3] at h
      simp only [Prod.mk.injEq] at h
      obtain ⟨-, hI, hJ⟩ := h
      exact (congrFun (congrFun hI aq) kq).symm.trans (Eq.trans (wi_nc _ _ haq.1) (Eq.trans (frX10_lay hq1.symm aq kq ⟨haq.2.1, haq.2.2.1, haq.2.2.2.1, haq.2.2.2.2.1, haq.2.2.2.2.2.1, haq.2.2.2.2.2.2⟩) rfl))
  · simp only [if_neg hq2] at h
    simp only [Prod.mk.injEq] at h
    obtain ⟨-, hI, hJ⟩ := h
    exact (congrFun (congrFun hI aq) kq).symm.trans (Eq.trans (wi_nc _ _ haq.1) (Eq.trans (frX10_lay hq1.symm aq kq ⟨haq.2.1, haq.2.2.1, haq.2.2.2.1, haq.2.2.2.2.1, haq.2.2.2.2.2.1, haq.2.2.2.2.2.2⟩) rfl))
theorem fjX10_who {w : Int} {t : Int} {S : Mi × Mj} {r0 : Int} {I0 : Mi} {J0 : Mj} (h : fX10_who w t S = (r0, I0, J0)) (aq kq : Nat) (haq : True) : J0 aq kq = S.2 aq kq := by
  obtain ⟨I, J⟩ := S
  unfold fX10_who at h
  try simp only at h
  obtain ⟨⟨r1, I2, J3⟩, hq1⟩ : ∃ q, q = fX10_lay (I, J) := ⟨_, rfl⟩
  rw [← hq1] at h; try simp only at h
  by_cases hq2 : 0 ≤ w ∧ w < gi I 59 0
  · simp only [if_pos hq2] at h
    by_cases hq3 : 0 ≤ t ∧ t ≤ 5
    · simp only [if_pos hq3] at h
      by_cases hq4 : 3 ≤ t
      · simp only [if_pos hq4] at h
        obtain ⟨n0, hq5⟩ : ∃ zz, zz = su (fun q => if t = 5 then (if gi I2 59 (120 + 32 * q + 4).toNat = w then 1 else 0) else if gi I2 59 (120 + 32 * q + 1).toNat = w then (if t = 3 then 1 else gi I2 59 (120 + 32 * q + 0).toNat) else 0) (gi I 59 108).toNat := ⟨_, rfl⟩
        try rw [← hq5] at h
        try simp only at h
        simp only [Prod.mk.injEq] at h
        obtain ⟨-, hI, hJ⟩ := h
        exact (congrFun (congrFun hJ aq) kq).symm.trans (Eq.trans (fjX10_lay hq1.symm aq kq trivial) rfl)
      · simp only [if_neg hq4] at h
        simp only [Prod.mk.injEq] at h
        obtain ⟨-, hI, hJ⟩ := h
        exact (congrFun (congrFun hJ aq) kq).symm.trans (Eq.trans (fjX10_lay hq1.symm aq kq trivial) rfl)
    · simp only [if_neg hq3] at h
      simp only [Prod.mk.injEq] at h
      obtain ⟨-, hI, hJ⟩ := h
      exact (congrFun (congrFun hJ aq) kq).symm.trans (Eq.trans (fjX10_lay hq1.symm aq kq trivial) rfl)
  · simp only [if_neg hq2] at h
    simp only [Prod.mk.injEq] at h
    obtain ⟨-, hI, hJ⟩ := h
    exact (congrFun (congrFun hJ aq) kq).symm.trans (Eq.trans (fjX10_lay hq1.symm aq kq trivial) rfl)
set_option maxHeartbeats 4000000 in
set_option maxRecDepth 100000 in
theorem qX10_who {G : Gx} {σ : State} (hC : Cz G σ) {sh : Sh} {I : Mi} {J : Mj} (w t : Int) (hS : St sh) (hn : NX (I 59)) (rw : -2147483648 ≤ w ∧ w < 2147483648) (rt : -2147483648 ≤ t ∧ t < 2147483648) : Ce G σ 3 yX10_who cX10_who 5 (some .int) [.ref (G.2.2 + 57), .int (iv (w)), .int (iv (t))] (sh, I, J) 0 0 (some (.int (iv ((fX10_who w t (I, J)).1)))) (sh, (fX10_who w t (I, J)).2.1, (fX10_who w t (I, J)).2.2) := by
  refine Ct.of hC (by decide +kernel) (Nat.le_of_ble_eq_true rfl) ?_
  intro p l e R s m args below meth c C
  show Jz G σ p l e R s m args below meth c 5 0 0 (Qx (some (.int (iv ((fX10_who w t (I, J)).1)))) (sh, (fX10_who w t (I, J)).2.1, (fX10_who w t (I, J)).2.2)) (sh, I, J) 0 0 0 [(0, .ref (G.2.2 + 57)), (1, .int (iv (w))), (2, .int (iv (t)))] []
  have hn0 := nx_c hn
  have hn1 := nx_p hn
  have hn2 := nx_m hn
  have hn3 := nx_s hn
  have hn4 := nx_sl hn
  refine z_aload_n C dX10_who_0 0 rfl ?_
  refine z_cVvF (st := []) (F := fX10_lay (I, J)) C dX10_who_1 mX10_167 (kd_57 hS) (qX10_lay hC  hS) rfl rfl (Nat.le_of_ble_eq_true rfl) (by decide) (fun r1 I2 J3 hT4 => ?_)
  have hn5 : NX (I2 59) := nxX10_lay hT4 hn
  refine z_aload_n C dX10_who_4 0 rfl ?_
  refine z_iload_n C dX10_who_5 1 rfl ?_
  refine z_cVi (st := []) C dX10_who_6 mX10_243 (kd_57 hS) (qX10_isWho hC w hS rw) rfl rfl (Nat.le_of_ble_eq_true rfl) (by decide) ?_
  refine z_eqi (b2 (0 ≤ w ∧ w < gi I 59 0)) (b2_iff (by rw [show gi I2 59 0 = gi I 59 0 from (gi_fk (frX10_lay hT4 59 0 (by decide)))])) ?_
  refine z_if_eq_b 21 C dX10_who_9 (by decide) (fun h6 => ?_) (fun h6 => ?_)
  ·
    refine z_aload_n C dX10_who_21 0 rfl ?_
    refine z_cVi (st := []) C dX10_who_22 mX10_246 (kd_57 hS) (qX10_refuse hC  hS) rfl rfl (Nat.le_of_ble_eq_true rfl) (by decide) ?_
    have hf7 : fX10_who w t (I, J) = (0, (wi I2 57 0 1), J3) := (by simp only [fX10_who, hT4, if_neg h6])
    exact z_ireturnx C dX10_who_25 (by rw [hf7]) (by rw [hf7])
  ·
    refine z_iload_n C dX10_who_12 2 rfl ?_
    refine z_iconst C dX10_who_13 ?_
    refine z_iconst C dX10_who_14 ?_
    refine z_cSi (st := []) C dX10_who_15 mX10_154 (qX10_isIn hC t 0 5 rt (by omega) (by omega)) rfl rfl (Nat.le_of_ble_eq_true rfl) (by decide) ?_
    refine z_if_ne_b 26 C dX10_who_18 (by decide) (fun h8 => ?_) (fun h8 => ?_)
    ·
      refine z_aload_n C dX10_who_26 0 rfl ?_
      refine z_iconst C dX10_who_27 ?_
      refine z_putI C dX10_who_28 fX10_83 rfl rfl (kd_57 hS) rfl rfl ?_
      refine z_iload_n C dX10_who_31 2 rfl ?_
      refine z_iconst C dX10_who_32 ?_
      refine z_icmp_ge 43 C dX10_who_33 (by decide) (by omega) (by decide) (fun h9 => ?_) (fun h9 => ?_)
      ·
        refine z_iconst C dX10_who_43 ?_
        refine z_istore_n (lv' := [(0, .ref (G.2.2 + 57)), (1, .int (iv (w))), (2, .int (iv (t))), (3, .int (iv (0)))]) C dX10_who_44 rfl (by decide) [1, 2, 3, 0] rfl ?_
        refine z_iconst C dX10_who_45 ?_
        refine z_istore (lv' := [(0, .ref (G.2.2 + 57)), (1, .int (iv (w))), (2, .int (iv (t))), (3, .int (iv (0))), (4, .int (iv (0)))]) C dX10_who_46 (by decide) [1, 2, 3, 4, 0] rfl ?_
        have hE13 : ∀ (n0 : Int), n0 = su (fun q => if t = 5 then (if gi I2 59 (120 + 32 * q + 4).toNat = w then 1 else 0) else if gi I2 59 (120 + 32 * q + 1).toNat = w then (if t = 3 then 1 else gi I2 59 (120 + 32 * q + 0).toNat) else 0) (gi I 59 108).toNat → Jz G σ p l e R s m args below meth c 5 0 0 (Qx (some (.int (iv ((fX10_who w t (I, J)).1)))) (sh, (fX10_who w t (I, J)).2.1, (fX10_who w t (I, J)).2.2)) (sh, (wi I2 57 0 0), J3) 0 0 119 [(0, .ref (G.2.2 + 57)), (1, .int (iv (w))), (2, .int (iv (t))), (3, .int (iv (n0)))] [] := by
          intro n0 hxn0
          refine z_iload_n C dX10_who_119 3 rfl ?_
          have hf14 : fX10_who w t (I, J) = (n0, (wi I2 57 0 0), J3) := (by simp only [fX10_who, hT4, if_pos h6, if_pos h8, if_pos h9, ← hxn0])
          exact z_ireturnx C dX10_who_120 (by rw [hf14]) (by rw [hf14])
        have hL11 : ∀ (N10 : Nat) (q : Int) (n0 : Int), (0 ≤ q ∧ q ≤ gi I 59 108) → n0 = su (fun q => if t = 5 then (if gi I2 59 (120 + 32 * q + 4).toNat = w then 1 else 0) else if gi I2 59 (120 + 32 * q + 1).toNat = w then (if t = 3 then 1 else gi I2 59 (120 + 32 * q + 0).toNat) else 0) q.toNat → (gi I 59 108 - q).toNat < N10 → Jz G σ p l e R s m args below meth c 5 0 0 (Qx (some (.int (iv ((fX10_who w t (I, J)).1)))) (sh, (fX10_who w t (I, J)).2.1, (fX10_who w t (I, J)).2.2)) (sh, (wi I2 57 0 0), J3) 0 0 48 [(0, .ref (G.2.2 + 57)), (1, .int (iv (w))), (2, .int (iv (t))), (3, .int (iv (n0))), (4, .int (iv (q)))] [] := by
          intro N10
          induction N10 with
          | zero => intro q n0 hq hnn0 hm; exact absurd hm (Nat.not_lt_zero _)
          | succ N10 ih12 =>
            intro q n0 hq hnn0 hm
            refine z_iload C dX10_who_48 4 rfl ?_
            refine z_aload_n C dX10_who_50 0 rfl ?_
            refine z_cVi (st := [.int (iv (q))]) C dX10_who_51 mX10_188 (kd_57 hS) (qX10_coins hC  hS) rfl rfl (Nat.le_of_ble_eq_true rfl) (by decide) ?_
            refine z_eqi (gi I 59 108) (by rw [show gi (wi I2 57 0 0) 59 108 = gi I 59 108 from (Eq.trans (gi_wi_na _ _ _ _ (by decide)) (gi_fk (frX10_lay hT4 59 108 (by decide))))]) ?_
            refine z_icmp_ge 119 C dX10_who_54 (by decide) (by omega) (gi_rng _ _ _) (fun h15 => ?_) (fun h15 => ?_)
            ·
              have hcl : q = gi I 59 108 := by omega
              refine z_drop (lv' := [(0, .ref (G.2.2 + 57)), (1, .int (iv (w))), (2, .int (iv (t))), (3, .int (iv (n0)))]) [0, 1, 2, 3] rfl ?_
              exact hE13 n0 (by rw [hnn0, hcl])
            ·
              refine z_iload_n C dX10_who_57 2 rfl ?_
              refine z_iconst C dX10_who_58 ?_
              refine z_icmp_ne 83 C dX10_who_59 (by decide) (by omega) (by decide) (fun h16 => ?_) (fun h16 => ?_)
              ·
                refine z_aload_n C dX10_who_83 0 rfl ?_
                refine z_iload C dX10_who_84 4 rfl ?_
                refine z_iconst C dX10_who_86 ?_
                refine z_cVi (st := []) C dX10_who_87 mX10_256 (kd_57 hS) (qX10_ofCoin hC q 1 hS (by omega) (by omega)) rfl rfl (Nat.le_of_ble_eq_true rfl) (by decide) ?_
                refine z_eqi (gi I2 59 ((120 + 32 * q + 1).toNat)) (by rw [show gi (wi I2 57 0 0) 59 (120 + 32 * q + 1).toNat = gi I2 59 ((120 + 32 * q + 1).toNat) from (gi_wi_na _ _ _ _ (by decide))]) ?_
                refine z_iload_n C dX10_who_90 1 rfl ?_
                refine z_icmp_ne 113 C dX10_who_91 (by decide) (gi_rng _ _ _) (by omega) (fun h17 => ?_) (fun h17 => ?_)
                ·
                  refine z_iinc (lv' := [(0, .ref (G.2.2 + 57)), (1, .int (iv (w))), (2, .int (iv (t))), (3, .int (iv (n0))), (4, .int (iv (q + 1)))]) C dX10_who_113 4 rfl (by decide) [1, 2, 3, 4, 0] rfl ?_
                  refine z_goto 48 C dX10_who_116 (by decide) ?_
                  exact ih12 (q + 1) n0 (by omega) (by rw [su_step _ hq.1, ← hnn0]; (try simp only [b2, if_neg h15, if_neg h16, if_neg h17]) <;> omega)  (by omega)
                ·
                  refine z_iload_n C dX10_who_94 3 rfl ?_
                  refine z_iload_n C dX10_who_95 2 rfl ?_
                  refine z_iconst C dX10_who_96 ?_
                  refine z_icmp_ne 104 C dX10_who_97 (by decide) (by omega) (by decide) (fun h18 => ?_) (fun h18 => ?_)
                  ·
                    refine z_aload_n C dX10_who_104 0 rfl ?_
                    refine z_iload C dX10_who_105 4 rfl ?_
                    refine z_iconst C dX10_who_107 ?_
                    refine z_cVi (st := [.int (iv (n0))]) C dX10_who_108 mX10_256 (kd_57 hS) (qX10_ofCoin hC q 0 hS (by omega) (by omega)) rfl rfl (Nat.le_of_ble_eq_true rfl) (by decide) ?_
                    refine z_eqi (gi I2 59 ((120 + 32 * q + 0).toNat)) (by rw [show gi (wi I2 57 0 0) 59 (120 + 32 * q + 0).toNat = gi I2 59 ((120 + 32 * q + 0).toNat) from (gi_wi_na _ _ _ _ (by decide))]) ?_
                    refine z_iadd C dX10_who_111 ?_
                    refine z_nami (fun x19 hx19 => ?_)
                    refine z_istore_n (lv' := [(0, .ref (G.2.2 + 57)), (1, .int (iv (w))), (2, .int (iv (t))), (3, .int (iv (x19))), (4, .int (iv (q)))]) C dX10_who_112 rfl (by decide) [1, 2, 3, 0, 4] rfl ?_
                    refine z_iinc (lv' := [(0, .ref (G.2.2 + 57)), (1, .int (iv (w))), (2, .int (iv (t))), (3, .int (iv (x19))), (4, .int (iv (q + 1)))]) C dX10_who_113 4 rfl (by decide) [1, 2, 3, 4, 0] rfl ?_
                    refine z_goto 48 C dX10_who_116 (by decide) ?_
                    exact ih12 (q + 1) x19 (by omega) (by rw [su_step _ hq.1, ← hnn0]; (try simp only [b2, if_neg h15, if_neg h16, if_pos h17, if_neg h18]) <;> omega)  (by omega)
                  ·
                    refine z_iconst C dX10_who_100 ?_
                    refine z_goto 111 C dX10_who_101 (by decide) ?_
                    refine z_iadd C dX10_who_111 ?_
                    refine z_nami (fun x20 hx20 => ?_)
                    refine z_istore_n (lv' := [(0, .ref (G.2.2 + 57)), (1, .int (iv (w))), (2, .int (iv (t))), (3, .int (iv (x20))), (4, .int (iv (q)))]) C dX10_who_112 rfl (by decide) [1, 2, 3, 0, 4] rfl ?_
                    refine z_iinc (lv' := [(0, .ref (G.2.2 + 57)), (1, .int (iv (w))), (2, .int (iv (t))), (3, .int (iv (x20))), (4, .int (iv (q + 1)))]) C dX10_who_113 4 rfl (by decide) [1, 2, 3, 4, 0] rfl ?_
                    refine z_goto 48 C dX10_who_116 (by decide) ?_
                    exact ih12 (q + 1) x20 (by omega) (by rw [su_step _ hq.1, ← hnn0]; (try simp only [b2, if_neg h15, if_neg h16, if_pos h17, if_pos h18]) <;> omega)  (by omega)
              ·
                refine z_iload_n C dX10_who_62 3 rfl ?_
                refine z_aload_n C dX10_who_63 0 rfl ?_
                refine z_iload C dX10_who_64 4 rfl ?_
                refine z_cVi (st := [.int (iv (n0))]) C dX10_who_66 mX10_253 (kd_57 hS) (qX10_topOf hC q hS (by omega)) rfl rfl (Nat.le_of_ble_eq_true rfl) (by decide) ?_
                refine z_eqi (gi I2 59 ((120 + 32 * q + 4).toNat)) (by rw [show gi (wi I2 57 0 0) 59 (120 + 32 * q + 4).toNat = gi I2 59 ((120 + 32 * q + 4).toNat) from (gi_wi_na _ _ _ _ (by decide))]) ?_
                refine z_iload_n C dX10_who_69 1 rfl ?_
                refine z_icmp_ne 77 C dX10_who_70 (by decide) (gi_rng _ _ _) (by omega) (fun h21 => ?_) (fun h21 => ?_)
                ·
                  refine z_iconst C dX10_who_77 ?_
                  refine z_iadd C dX10_who_78 ?_
                  refine z_nami (fun x22 hx22 => ?_)
                  refine z_istore_n (lv' := [(0, .ref (G.2.2 + 57)), (1, .int (iv (w))), (2, .int (iv (t))), (3, .int (iv (x22))), (4, .int (iv (q)))]) C dX10_who_79 rfl (by decide) [1, 2, 3, 0, 4] rfl ?_
                  refine z_goto 113 C dX10_who_80 (by decide) ?_
                  refine z_iinc (lv' := [(0, .ref (G.2.2 + 57)), (1, .int (iv (w))), (2, .int (iv (t))), (3, .int (iv (x22))), (4, .int (iv (q + 1)))]) C dX10_who_113 4 rfl (by decide) [1, 2, 3, 4, 0] rfl ?_
                  refine z_goto 48 C dX10_who_116 (by decide) ?_
                  exact ih12 (q + 1) x22 (by omega) (by rw [su_step _ hq.1, ← hnn0]; (try simp only [b2, if_neg h15, if_pos h16, if_neg h21]) <;> omega)  (by omega)
                ·
                  refine z_iconst C dX10_who_73 ?_
                  refine z_goto 78 C dX10_who_74 (by decide) ?_
                  refine z_iadd C dX10_who_78 ?_
                  refine z_nami (fun x23 hx23 => ?_)
                  refine z_istore_n (lv' := [(0, .ref (G.2.2 + 57)), (1, .int (iv (w))), (2, .int (iv (t))), (3, .int (iv (x23))), (4, .int (iv (q)))]) C dX10_who_79 rfl (by decide) [1, 2, 3, 0, 4] rfl ?_
                  refine z_goto 113 C dX10_who_80 (by decide) ?_
                  refine z_iinc (lv' := [(0, .ref (G.2.2 + 57)), (1, .int (iv (w))), (2, .int (iv (t))), (3, .int (iv (x23))), (4, .int (iv (q + 1)))]) C dX10_who_113 4 rfl (by decide) [1, 2, 3, 4, 0] rfl ?_
                  refine z_goto 48 C dX10_who_116 (by decide) ?_
                  exact ih12 (q + 1) x23 (by omega) (by rw [su_step _ hq.1, ← hnn0]; (try simp only [b2, if_neg h15, if_pos h16, if_pos h21]) <;> omega)  (by omega)
        exact hL11 _ (0) (0) (by omega) (by simp [su])  (Nat.lt_succ_self _)
      ·
        refine z_aload_n C dX10_who_36 0 rfl ?_
        refine z_iload_n C dX10_who_37 1 rfl ?_
        refine z_iload_n C dX10_who_38 2 rfl ?_
        refine z_cVi (st := []) C dX10_who_39 mX10_249 (kd_57 hS) (qX10_ofWho hC w t hS (by omega) (by omega)) rfl rfl (Nat.le_of_ble_eq_true rfl) (by decide) ?_
        refine z_eqi (gi I2 59 ((8 + 3 * w + t).toNat)) (by rw [show gi (wi I2 57 0 0) 59 (8 + 3 * w + t).toNat = gi I2 59 ((8 + 3 * w + t).toNat) from (gi_wi_na _ _ _ _ (by decide))]) ?_
        have hf24 : fX10_who w t (I, J) = (gi I2 59 ((8 + 3 * w + t).toNat), (wi I2 57 0 0), J3) := (by simp only [fX10_who, hT4, if_pos h6, if_pos h8, if_neg h9])
        exact z_ireturnx C dX10_who_42 (by rw [hf24]) (by rw [hf24])
    ·
      refine z_aload_n C dX10_who_21 0 rfl ?_
      refine z_cVi (st := []) C dX10_who_22 mX10_246 (kd_57 hS) (qX10_refuse hC  hS) rfl rfl (Nat.le_of_ble_eq_true rfl) (by decide) ?_
      have hf25 : fX10_who w t (I, J) = (0, (wi I2 57 0 1), J3) := (by simp only [fX10_who, hT4, if_pos h6, if_neg h8])
      exact z_ireturnx C dX10_who_25 (by rw [hf25]) (by rw [hf25])

noncomputable def fX10_silver (w : Int) (S : Mi × Mj) : Int × Mi × Mj :=
  match S with
  | (I, J) =>
    match fX10_lay ((wi I 57 0 0), J) with
    | (r1, I2, J3) =>
      if w = 0 then
        (gi I 59 114, I2, J3)
      else
        if w = 2 then
          (gi I 59 115, I2, J3)
        else
          if w = 1 then
            match su (fun q => gi I2 59 (120 + 32 * q + 0).toNat) (gi I 59 108).toNat with
            | n0 =>
              (n0, I2, J3)
          else
            (-1, I2, J3)
theorem frX10_silver {w : Int} {S : Mi × Mj} {r0 : Int} {I0 : Mi} {J0 : Mj} (h : fX10_silver w S = (r0, I0, J0)) (aq kq : Nat) (haq : ¬ (aq = 57 ∧ kq = 0) ∧ ¬ (aq = 57 ∧ kq = 22) ∧ ¬ (aq = 59 ∧ kq = 110) ∧ ¬ (aq = 59 ∧ kq = 111) ∧ ¬ (aq = 59 ∧ kq = 4) ∧ ¬ (aq = 59 ∧ kq = 5) ∧ ¬ (aq = 59 ∧ kq = 6)) : I0 aq kq = S.1 aq kq := by
  obtain ⟨I, J⟩ := S
  unfold fX10_silver at h
  try simp only at h
  obtain ⟨⟨r1, I2, J3⟩, hq1⟩ : ∃ q, q = fX10_lay ((wi I 57 0 0), J) := ⟨_, rfl⟩
  rw [← hq1] at h; try simp only at h
  by_cases hq2 : w = 0
  · simp only [if_pos hq2] at h
    simp only [Prod.mk.injEq] at h
    obtain ⟨-, hI, hJ⟩ := h
    exact (congrFun (congrFun hI aq) kq).symm.trans (Eq.trans (frX10_lay hq1.symm aq kq ⟨haq.2.1, haq.2.2.1, haq.2.2.2.1, haq.2.2.2.2.1, haq.2.2.2.2.2.1, haq.2.2.2.2.2.2⟩) (Eq.trans (wi_nc _ _ haq.1) rfl))
  · simp only [if_neg hq2] at h
    by_cases hq3 : w = 2
    · simp only [if_pos hq3] at h
      simp only [Prod.mk.injEq] at h
      obtain ⟨-, hI, hJ⟩ := h
      exact (congrFun (congrFun hI aq) kq).symm.trans (Eq.trans (frX10_lay hq1.symm aq kq ⟨haq.2.1, haq.2.2.1, haq.2.2.2.1, haq.2.2.2.2.1, haq.2.2.2.2.2.1, haq.2.2.2.2.2.2⟩) (Eq.trans (wi_nc _ _ haq.1) rfl))
    · simp only [if_neg hq3] at h
      by_cases hq4 : w = 1
      · simp only [if_pos hq4] at h
        obtain ⟨n0, hq5⟩ : ∃ zz, zz = su (fun q => gi I2 59 (120 + 32 * q + 0).toNat) (gi I 59 108).toNat := ⟨_, rfl⟩
        try rw [← hq5] at h
        try simp only at h
        simp only [Prod.mk.injEq] at h
        obtain ⟨-, hI, hJ⟩ := h
        exact (congrFun (congrFun hI aq) kq).symm.trans (Eq.trans (frX10_lay hq1.symm aq kq ⟨haq.2.1, haq.2.2.1, haq.2.2.2.1, haq.2.2.2.2.1, haq.2.2.2.2.2.1, haq.2.2.2.2.2.2⟩) (Eq.trans (wi_nc _ _ haq.1) rfl))
      · simp only [if_neg hq4] at h
        simp only [Prod.mk.injEq] at h
        obtain ⟨-, hI, hJ⟩ := h
        exact (congrFun (congrFun hI aq) kq).symm.trans (Eq.trans (frX10_lay hq1.symm aq kq ⟨haq.2.1, haq.2.2.1, haq.2.2.2.1, haq.2.2.2.2.1, haq.2.2.2.2.2.1, haq.2.2.2.2.2.2⟩) (Eq.trans (wi_nc _ _ haq.1) rfl))
theorem fjX10_silver {w : Int} {S : Mi × Mj} {r0 : Int} {I0 : Mi} {J0 : Mj} (h : fX10_silver w S = (r0, I0, J0)) (aq kq : Nat) (haq : True) : J0 aq kq = S.2 aq kq := by
  obtain ⟨I, J⟩ := S
  unfold fX10_silver at h
  try simp only at h
  obtain ⟨⟨r1, I2, J3⟩, hq1⟩ : ∃ q, q = fX10_lay ((wi I 57 0 0), J) := ⟨_, rfl⟩
  rw [← hq1] at h; try simp only at h
  by_cases hq2 : w = 0
  · simp only [if_pos hq2] at h
    simp only [Prod.mk.injEq] at h
    obtain ⟨-, hI, hJ⟩ := h
    exact (congrFun (congrFun hJ aq) kq).symm.trans (Eq.trans (fjX10_lay hq1.symm aq kq trivial) rfl)
  · simp only [if_neg hq2] at h
    by_cases hq3 : w = 2
    · simp only [if_pos hq3] at h
      simp only [Prod.mk.injEq] at h
      obtain ⟨-, hI, hJ⟩ := h
      exact (congrFun (congrFun hJ aq) kq).symm.trans (Eq.trans (fjX10_lay hq1.symm aq kq trivial) rfl)
    · simp only [if_neg hq3] at h
      by_cases hq4 : w = 1
      · simp only [if_pos hq4] at h
        obtain ⟨n0, hq5⟩ : ∃ zz, zz = su (fun q => gi I2 59 (120 + 32 * q + 0).toNat) (gi I 59 108).toNat := ⟨_, rfl⟩
        try rw [← hq5] at h
        try simp only at h
        simp only [Prod.mk.injEq] at h
        obtain ⟨-, hI, hJ⟩ := h
        exact (congrFun (congrFun hJ aq) kq).symm.trans (Eq.trans (fjX10_lay hq1.symm aq kq trivial) rfl)
      · simp only [if_neg hq4] at h
        simp only [Prod.mk.injEq] at h
        obtain ⟨-, hI, hJ⟩ := h
        exact (congrFun (congrFun hJ aq) kq).symm.trans (Eq.trans (fjX10_lay hq1.symm aq kq trivial) rfl)
set_option maxHeartbeats 4000000 in
set_option maxRecDepth 100000 in
theorem qX10_silver {G : Gx} {σ : State} (hC : Cz G σ) {sh : Sh} {I : Mi} {J : Mj} (w : Int) (hS : St sh) (hn : NX (I 59)) (rw : -2147483648 ≤ w ∧ w < 2147483648) : Ce G σ 3 yX10_silver cX10_silver 4 (some .int) [.ref (G.2.2 + 57), .int (iv (w))] (sh, I, J) 0 0 (some (.int (iv ((fX10_silver w (I, J)).1)))) (sh, (fX10_silver w (I, J)).2.1, (fX10_silver w (I, J)).2.2) := by
  refine Ct.of hC (by decide +kernel) (Nat.le_of_ble_eq_true rfl) ?_
  intro p l e R s m args below meth c C
  show Jz G σ p l e R s m args below meth c 4 0 0 (Qx (some (.int (iv ((fX10_silver w (I, J)).1)))) (sh, (fX10_silver w (I, J)).2.1, (fX10_silver w (I, J)).2.2)) (sh, I, J) 0 0 0 [(0, .ref (G.2.2 + 57)), (1, .int (iv (w)))] []
  have hn0 := nx_c hn
  have hn1 := nx_p hn
  have hn2 := nx_m hn
  have hn3 := nx_s hn
  have hn4 := nx_sl hn
  refine z_aload_n C dX10_silver_0 0 rfl ?_
  refine z_iconst C dX10_silver_1 ?_
  refine z_putI C dX10_silver_2 fX10_83 rfl rfl (kd_57 hS) rfl rfl ?_
  refine z_aload_n C dX10_silver_5 0 rfl ?_
  refine z_cVvF (st := []) (F := fX10_lay ((wi I 57 0 0), J)) C dX10_silver_6 mX10_167 (kd_57 hS) (qX10_lay hC  hS) rfl rfl (Nat.le_of_ble_eq_true rfl) (by decide) (fun r1 I2 J3 hT4 => ?_)
  have hn5 : NX (I2 59) := nxX10_lay hT4 hn
  refine z_iload_n C dX10_silver_9 1 rfl ?_
  refine z_if_ne 21 C dX10_silver_10 (by decide) (by omega) (fun h6 => ?_) (fun h6 => ?_)
  ·
    refine z_iload_n C dX10_silver_21 1 rfl ?_
    refine z_iconst C dX10_silver_22 ?_
    refine z_icmp_ne 34 C dX10_silver_23 (by decide) (by omega) (by decide) (fun h7 => ?_) (fun h7 => ?_)
    ·
      refine z_iload_n C dX10_silver_34 1 rfl ?_
      refine z_iconst C dX10_silver_35 ?_
      refine z_icmp_eq 41 C dX10_silver_36 (by decide) (by omega) (by decide) (fun h8 => ?_) (fun h8 => ?_)
      ·
        refine z_iconst C dX10_silver_41 ?_
        refine z_istore_n (lv' := [(0, .ref (G.2.2 + 57)), (1, .int (iv (w))), (2, .int (iv (0)))]) C dX10_silver_42 rfl (by decide) [1, 2, 0] rfl ?_
        refine z_iconst C dX10_silver_43 ?_
        refine z_istore_n (lv' := [(0, .ref (G.2.2 + 57)), (1, .int (iv (w))), (2, .int (iv (0))), (3, .int (iv (0)))]) C dX10_silver_44 rfl (by decide) [1, 2, 3, 0] rfl ?_
        have hE12 : ∀ (n0 : Int), n0 = su (fun q => gi I2 59 (120 + 32 * q + 0).toNat) (gi I 59 108).toNat → Jz G σ p l e R s m args below meth c 4 0 0 (Qx (some (.int (iv ((fX10_silver w (I, J)).1)))) (sh, (fX10_silver w (I, J)).2.1, (fX10_silver w (I, J)).2.2)) (sh, I2, J3) 0 0 68 [(0, .ref (G.2.2 + 57)), (1, .int (iv (w))), (2, .int (iv (n0)))] [] := by
          intro n0 hxn0
          refine z_iload_n C dX10_silver_68 2 rfl ?_
          have hf13 : fX10_silver w (I, J) = (n0, I2, J3) := (by simp only [fX10_silver, hT4, if_neg h6, if_neg h7, if_pos h8, ← hxn0])
          exact z_ireturnx C dX10_silver_69 (by rw [hf13]) (by rw [hf13])
        have hL10 : ∀ (N9 : Nat) (q : Int) (n0 : Int), (0 ≤ q ∧ q ≤ gi I 59 108) → n0 = su (fun q => gi I2 59 (120 + 32 * q + 0).toNat) q.toNat → (gi I 59 108 - q).toNat < N9 → Jz G σ p l e R s m args below meth c 4 0 0 (Qx (some (.int (iv ((fX10_silver w (I, J)).1)))) (sh, (fX10_silver w (I, J)).2.1, (fX10_silver w (I, J)).2.2)) (sh, I2, J3) 0 0 45 [(0, .ref (G.2.2 + 57)), (1, .int (iv (w))), (2, .int (iv (n0))), (3, .int (iv (q)))] [] := by
          intro N9
          induction N9 with
          | zero => intro q n0 hq hnn0 hm; exact absurd hm (Nat.not_lt_zero _)
          | succ N9 ih11 =>
            intro q n0 hq hnn0 hm
            refine z_iload_n C dX10_silver_45 3 rfl ?_
            refine z_aload_n C dX10_silver_46 0 rfl ?_
            refine z_cVi (st := [.int (iv (q))]) C dX10_silver_47 mX10_188 (kd_57 hS) (qX10_coins hC  hS) rfl rfl (Nat.le_of_ble_eq_true rfl) (by decide) ?_
            refine z_eqi (gi I 59 108) (by rw [show gi I2 59 108 = gi I 59 108 from (Eq.trans (gi_fk (frX10_lay hT4 59 108 (by decide))) (gi_wi_na _ _ _ _ (by decide)))]) ?_
            refine z_icmp_ge 68 C dX10_silver_50 (by decide) (by omega) (gi_rng _ _ _) (fun h14 => ?_) (fun h14 => ?_)
            ·
              have hcl : q = gi I 59 108 := by omega
              refine z_drop (lv' := [(0, .ref (G.2.2 + 57)), (1, .int (iv (w))), (2, .int (iv (n0)))]) [0, 1, 2] rfl ?_
              exact hE12 n0 (by rw [hnn0, hcl])
            ·
              refine z_iload_n C dX10_silver_53 2 rfl ?_
              refine z_aload_n C dX10_silver_54 0 rfl ?_
              refine z_iload_n C dX10_silver_55 3 rfl ?_
              refine z_iconst C dX10_silver_56 ?_
              refine z_cVi (st := [.int (iv (n0))]) C dX10_silver_57 mX10_256 (kd_57 hS) (qX10_ofCoin hC q 0 hS (by omega) (by omega)) rfl rfl (Nat.le_of_ble_eq_true rfl) (by decide) ?_
              refine z_iadd C dX10_silver_60 ?_
              refine z_nami (fun x15 hx15 => ?_)
              refine z_istore_n (lv' := [(0, .ref (G.2.2 + 57)), (1, .int (iv (w))), (2, .int (iv (x15))), (3, .int (iv (q)))]) C dX10_silver_61 rfl (by decide) [1, 2, 0, 3] rfl ?_
              refine z_iinc (lv' := [(0, .ref (G.2.2 + 57)), (1, .int (iv (w))), (2, .int (iv (x15))), (3, .int (iv (q + 1)))]) C dX10_silver_62 3 rfl (by decide) [1, 2, 3, 0] rfl ?_
              refine z_goto 45 C dX10_silver_65 (by decide) ?_
              exact ih11 (q + 1) x15 (by omega) (by rw [su_step _ hq.1, ← hnn0]; (try simp only [b2, if_neg h14]) <;> omega)  (by omega)
        exact hL10 _ (0) (0) (by omega) (by simp [su])  (Nat.lt_succ_self _)
      ·
        refine z_iconst C dX10_silver_39 ?_
        have hf16 : fX10_silver w (I, J) = (-1, I2, J3) := (by simp only [fX10_silver, hT4, if_neg h6, if_neg h7, if_neg h8])
        exact z_ireturnx C dX10_silver_40 (by rw [hf16]) (by rw [hf16])
    ·
      refine z_aload_n C dX10_silver_26 0 rfl ?_
      refine z_getR C dX10_silver_27 fX10_13 rfl (kd_57 hS) (r_57_14 hS) ?_
      refine z_bipush C dX10_silver_30 (by decide) ?_
      refine z_iald (q := 115) C dX10_silver_32 (ka_59 hS) rfl (by decide) ?_
      refine z_eqi (gi I 59 115) (Eq.trans (gi_fk (frX10_lay hT4 59 115 (by decide))) (gi_wi_na _ _ _ _ (by decide))) ?_
      have hf17 : fX10_silver w (I, J) = (gi I 59 115, I2, J3) := (by simp only [fX10_silver, hT4, if_neg h6, if_pos h7])
      exact z_ireturnx C dX10_silver_33 (by rw [hf17]) (by rw [hf17])
  ·
    refine z_aload_n C dX10_silver_13 0 rfl ?_
    refine z_getR C dX10_silver_14 fX10_13 rfl (kd_57 hS) (r_57_14 hS) ?_
    refine z_bipush C dX10_silver_17 (by decide) ?_
    refine z_iald (q := 114) C dX10_silver_19 (ka_59 hS) rfl (by decide) ?_
    refine z_eqi (gi I 59 114) (Eq.trans (gi_fk (frX10_lay hT4 59 114 (by decide))) (gi_wi_na _ _ _ _ (by decide))) ?_
    have hf18 : fX10_silver w (I, J) = (gi I 59 114, I2, J3) := (by simp only [fX10_silver, hT4, if_pos h6])
    exact z_ireturnx C dX10_silver_20 (by rw [hf18]) (by rw [hf18])

noncomputable def fX10_face (q : Int) (i : Int) (t : Int) (S : Mi × Mj) : Int × Mi × Mj :=
  match S with
  | (I, J) =>
    match fX10_lay ((wi I 57 0 0), J) with
    | (r1, I2, J3) =>
      if 0 ≤ q ∧ q < gi I 59 108 then
        if i < 0 then
          (-1, I2, J3)
        else
          if (gi I2 59 (120 + 32 * q + 3).toNat) ≤ i then
            (-1, I2, J3)
          else
            if 0 ≤ t ∧ t ≤ 2 then
              (gi I2 59 (120 + 32 * q + ((4 + (3 * i)) + t)).toNat, I2, J3)
            else
              (-1, I2, J3)
      else
        (-1, I2, J3)
theorem frX10_face {q : Int} {i : Int} {t : Int} {S : Mi × Mj} {r0 : Int} {I0 : Mi} {J0 : Mj} (h : fX10_face q i t S = (r0, I0, J0)) (aq kq : Nat) (haq : ¬ (aq = 57 ∧ kq = 0) ∧ ¬ (aq = 57 ∧ kq = 22) ∧ ¬ (aq = 59 ∧ kq = 110) ∧ ¬ (aq = 59 ∧ kq = 111) ∧ ¬ (aq = 59 ∧ kq = 4) ∧ ¬ (aq = 59 ∧ kq = 5) ∧ ¬ (aq = 59 ∧ kq = 6)) : I0 aq kq = S.1 aq kq := by
  obtain ⟨I, J⟩ := S
  unfold fX10_face at h
  try simp only at h
  obtain ⟨⟨r1, I2, J3⟩, hq1⟩ : ∃ q, q = fX10_lay ((wi I 57 0 0), J) := ⟨_, rfl⟩
  rw [← hq1] at h; try simp only at h
  by_cases hq2 : 0 ≤ q ∧ q < gi I 59 108
  · simp only [if_pos hq2] at h
    by_cases hq3 : i < 0
    · simp only [if_pos hq3] at h
      simp only [Prod.mk.injEq] at h
      obtain ⟨-, hI, hJ⟩ := h
      exact (congrFun (congrFun hI aq) kq).symm.trans (Eq.trans (frX10_lay hq1.symm aq kq ⟨haq.2.1, haq.2.2.1, haq.2.2.2.1, haq.2.2.2.2.1, haq.2.2.2.2.2.1, haq.2.2.2.2.2.2⟩) (Eq.trans (wi_nc _ _ haq.1) rfl))
    · simp only [if_neg hq3] at h
      by_cases hq4 : (gi I2 59 (120 + 32 * q + 3).toNat) ≤ i
      · simp only [if_pos hq4] at h
        simp only [Prod.mk.injEq] at h
        obtain ⟨-, hI, hJ⟩ := h
        exact (congrFun (congrFun hI aq) kq).symm.trans (Eq.trans (frX10_lay hq1.symm aq kq ⟨haq.2.1, haq.2.2.1, haq.2.2.2.1, haq.2.2.2.2.1, haq.2.2.2.2.2.1, haq.2.2.2.2.2.2⟩) (Eq.trans (wi_nc _ _ haq.1) rfl))
      · simp only [if_neg hq4] at h
        by_cases hq5 : 0 ≤ t ∧ t ≤ 2
        · simp only [if_pos hq5] at h
          simp only [Prod.mk.injEq] at h
          obtain ⟨-, hI, hJ⟩ := h
          exact (congrFun (congrFun hI aq) kq).symm.trans (Eq.trans (frX10_lay hq1.symm aq kq ⟨haq.2.1, haq.2.2.1, haq.2.2.2.1, haq.2.2.2.2.1, haq.2.2.2.2.2.1, haq.2.2.2.2.2.2⟩) (Eq.trans (wi_nc _ _ haq.1) rfl))
        · simp only [if_neg hq5] at h
          simp only [Prod.mk.injEq] at h
          obtain ⟨-, hI, hJ⟩ := h
          exact (congrFun (congrFun hI aq) kq).symm.trans (Eq.trans (frX10_lay hq1.symm aq kq ⟨haq.2.1, haq.2.2.1, haq.2.2.2.1, haq.2.2.2.2.1, haq.2.2.2.2.2.1, haq.2.2.2.2.2.2⟩) (Eq.trans (wi_nc _ _ haq.1) rfl))
  · simp only [if_neg hq2] at h
    simp only [Prod.mk.injEq] at h
    obtain ⟨-, hI, hJ⟩ := h
    exact (congrFun (congrFun hI aq) kq).symm.trans (Eq.trans (frX10_lay hq1.symm aq kq ⟨haq.2.1, haq.2.2.1, haq.2.2.2.1, haq.2.2.2.2.1, haq.2.2.2.2.2.1, haq.2.2.2.2.2.2⟩) (Eq.trans (wi_nc _ _ haq.1) rfl))
theorem fjX10_face {q : Int} {i : Int} {t : Int} {S : Mi × Mj} {r0 : Int} {I0 : Mi} {J0 : Mj} (h : fX10_face q i t S = (r0, I0, J0)) (aq kq : Nat) (haq : True) : J0 aq kq = S.2 aq kq := by
  obtain ⟨I, J⟩ := S
  unfold fX10_face at h
  try simp only at h
  obtain ⟨⟨r1, I2, J3⟩, hq1⟩ : ∃ q, q = fX10_lay ((wi I 57 0 0), J) := ⟨_, rfl⟩
  rw [← hq1] at h; try simp only at h
  by_cases hq2 : 0 ≤ q ∧ q < gi I 59 108
  · simp only [if_pos hq2] at h
    by_cases hq3 : i < 0
    · simp only [if_pos hq3] at h
      simp only [Prod.mk.injEq] at h
      obtain ⟨-, hI, hJ⟩ := h
      exact (congrFun (congrFun hJ aq) kq).symm.trans (Eq.trans (fjX10_lay hq1.symm aq kq trivial) rfl)
    · simp only [if_neg hq3] at h
      by_cases hq4 : (gi I2 59 (120 + 32 * q + 3).toNat) ≤ i
      · simp only [if_pos hq4] at h
        simp only [Prod.mk.injEq] at h
        obtain ⟨-, hI, hJ⟩ := h
        exact (congrFun (congrFun hJ aq) kq).symm.trans (Eq.trans (fjX10_lay hq1.symm aq kq trivial) rfl)
      · simp only [if_neg hq4] at h
        by_cases hq5 : 0 ≤ t ∧ t ≤ 2
        · simp only [if_pos hq5] at h
          simp only [Prod.mk.injEq] at h
          obtain ⟨-, hI, hJ⟩ := h
          exact (congrFun (congrFun hJ aq) kq).symm.trans (Eq.trans (fjX10_lay hq1.symm aq kq trivial) rfl)
        · simp only [if_neg hq5] at h
          simp only [Prod.mk.injEq] at h
          obtain ⟨-, hI, hJ⟩ := h
          exact (congrFun (congrFun hJ aq) kq).symm.trans (Eq.trans (fjX10_lay hq1.symm aq kq trivial) rfl)
  · simp only [if_neg hq2] at h
    simp only [Prod.mk.injEq] at h
    obtain ⟨-, hI, hJ⟩ := h
    exact (congrFun (congrFun hJ aq) kq).symm.trans (Eq.trans (fjX10_lay hq1.symm aq kq trivial) rfl)
set_option maxHeartbeats 4000000 in
set_option maxRecDepth 100000 in
theorem qX10_face {G : Gx} {σ : State} (hC : Cz G σ) {sh : Sh} {I : Mi} {J : Mj} (q i t : Int) (hS : St sh) (hn : NX (I 59)) (rq : -2147483648 ≤ q ∧ q < 2147483648) (ri : -2147483648 ≤ i ∧ i < 2147483648) (rt : -2147483648 ≤ t ∧ t < 2147483648) : Ce G σ 3 yX10_face cX10_face 4 (some .int) [.ref (G.2.2 + 57), .int (iv (q)), .int (iv (i)), .int (iv (t))] (sh, I, J) 0 0 (some (.int (iv ((fX10_face q i t (I, J)).1)))) (sh, (fX10_face q i t (I, J)).2.1, (fX10_face q i t (I, J)).2.2) := by
  refine Ct.of hC (by decide +kernel) (Nat.le_of_ble_eq_true rfl) ?_
  intro p l e R s m args below meth c C
  show Jz G σ p l e R s m args below meth c 4 0 0 (Qx (some (.int (iv ((fX10_face q i t (I, J)).1)))) (sh, (fX10_face q i t (I, J)).2.1, (fX10_face q i t (I, J)).2.2)) (sh, I, J) 0 0 0 [(0, .ref (G.2.2 + 57)), (1, .int (iv (q))), (2, .int (iv (i))), (3, .int (iv (t)))] []
  have hn0 := nx_c hn
  have hn1 := nx_p hn
  have hn2 := nx_m hn
  have hn3 := nx_s hn
  have hn4 := nx_sl hn
  refine z_aload_n C dX10_face_0 0 rfl ?_
  refine z_iconst C dX10_face_1 ?_
  refine z_putI C dX10_face_2 fX10_83 rfl rfl (kd_57 hS) rfl rfl ?_
  refine z_aload_n C dX10_face_5 0 rfl ?_
  refine z_cVvF (st := []) (F := fX10_lay ((wi I 57 0 0), J)) C dX10_face_6 mX10_167 (kd_57 hS) (qX10_lay hC  hS) rfl rfl (Nat.le_of_ble_eq_true rfl) (by decide) (fun r1 I2 J3 hT4 => ?_)
  have hn5 : NX (I2 59) := nxX10_lay hT4 hn
  refine z_aload_n C dX10_face_9 0 rfl ?_
  refine z_iload_n C dX10_face_10 1 rfl ?_
  refine z_cVi (st := []) C dX10_face_11 mX10_282 (kd_57 hS) (qX10_isCoin hC q hS rq) rfl rfl (Nat.le_of_ble_eq_true rfl) (by decide) ?_
  refine z_eqi (b2 (0 ≤ q ∧ q < gi I 59 108)) (b2_iff (by rw [show gi I2 59 108 = gi I 59 108 from (Eq.trans (gi_fk (frX10_lay hT4 59 108 (by decide))) (gi_wi_na _ _ _ _ (by decide)))])) ?_
  refine z_if_eq_b 55 C dX10_face_14 (by decide) (fun h6 => ?_) (fun h6 => ?_)
  ·
    refine z_iconst C dX10_face_55 ?_
    have hf7 : fX10_face q i t (I, J) = (-1, I2, J3) := (by simp only [fX10_face, hT4, if_neg h6])
    exact z_ireturnx C dX10_face_56 (by rw [hf7]) (by rw [hf7])
  ·
    refine z_iload_n C dX10_face_17 2 rfl ?_
    refine z_if_lt 55 C dX10_face_18 (by decide) (by omega) (fun h8 => ?_) (fun h8 => ?_)
    ·
      refine z_iconst C dX10_face_55 ?_
      have hf9 : fX10_face q i t (I, J) = (-1, I2, J3) := (by simp only [fX10_face, hT4, if_pos h6, if_pos h8])
      exact z_ireturnx C dX10_face_56 (by rw [hf9]) (by rw [hf9])
    ·
      refine z_iload_n C dX10_face_21 2 rfl ?_
      refine z_aload_n C dX10_face_22 0 rfl ?_
      refine z_iload_n C dX10_face_23 1 rfl ?_
      refine z_iconst C dX10_face_24 ?_
      refine z_cVi (st := [.int (iv (i))]) C dX10_face_25 mX10_256 (kd_57 hS) (qX10_ofCoin hC q 3 hS (by omega) (by omega)) rfl rfl (Nat.le_of_ble_eq_true rfl) (by decide) ?_
      refine z_icmp_ge 55 C dX10_face_28 (by decide) (by omega) (gi_rng _ _ _) (fun h10 => ?_) (fun h10 => ?_)
      ·
        refine z_iconst C dX10_face_55 ?_
        have hf11 : fX10_face q i t (I, J) = (-1, I2, J3) := (by simp only [fX10_face, hT4, if_pos h6, if_neg h8, if_pos h10])
        exact z_ireturnx C dX10_face_56 (by rw [hf11]) (by rw [hf11])
      ·
        refine z_iload_n C dX10_face_31 3 rfl ?_
        refine z_iconst C dX10_face_32 ?_
        refine z_iconst C dX10_face_33 ?_
        refine z_cSi (st := []) C dX10_face_34 mX10_154 (qX10_isIn hC t 0 2 rt (by omega) (by omega)) rfl rfl (Nat.le_of_ble_eq_true rfl) (by decide) ?_
        refine z_if_eq_b 55 C dX10_face_37 (by decide) (fun h12 => ?_) (fun h12 => ?_)
        ·
          refine z_iconst C dX10_face_55 ?_
          have hf13 : fX10_face q i t (I, J) = (-1, I2, J3) := (by simp only [fX10_face, hT4, if_pos h6, if_neg h8, if_neg h10, if_neg h12])
          exact z_ireturnx C dX10_face_56 (by rw [hf13]) (by rw [hf13])
        ·
          have e108 := (show gi I2 59 108 = gi I 59 108 from (Eq.trans (gi_fk (frX10_lay hT4 59 108 (by decide))) (gi_wi_na _ _ _ _ (by decide))))
          have hla := nx_la hn5 (q := q) (by omega) (by omega)
          refine z_aload_n C dX10_face_40 0 rfl ?_
          refine z_iload_n C dX10_face_41 1 rfl ?_
          refine z_iconst C dX10_face_42 ?_
          refine z_iconst C dX10_face_43 ?_
          refine z_iload_n C dX10_face_44 2 rfl ?_
          refine z_imul C dX10_face_45 ?_
          refine z_iadd C dX10_face_46 ?_
          refine z_iload_n C dX10_face_47 3 rfl ?_
          refine z_iadd C dX10_face_48 ?_
          refine z_cVi (st := []) C dX10_face_49 mX10_256 (kd_57 hS) (qX10_ofCoin hC q ((4 + (3 * i)) + t) hS (by omega) (by omega)) rfl rfl (Nat.le_of_ble_eq_true rfl) (by decide) ?_
          refine z_goto 56 C dX10_face_52 (by decide) ?_
          have hf14 : fX10_face q i t (I, J) = (gi I2 59 (120 + 32 * q + ((4 + (3 * i)) + t)).toNat, I2, J3) := (by simp only [fX10_face, hT4, if_pos h6, if_neg h8, if_neg h10, if_pos h12])
          exact z_ireturnx C dX10_face_56 (by rw [hf14]) (by rw [hf14])

